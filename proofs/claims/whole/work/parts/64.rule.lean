theorem gI_X (h : aH) (a j : Nat) (v : Int32) (k b : Nat) : hI (sX h a j v) k b = hI h k b := rfl
theorem gX_I (h : aH) (k a : Nat) (v : Int32) (r i : Nat) : hX (sI h k a v) r i = hX h r i := rfl
theorem gX_X (h : aH) {a j r i : Nat} {v : Int32} (e : r ≠ a) : hX (sX h a j v) r i = hX h r i := up2_k _ _ e
section EV
variable {l : Launch} {G : aG} {d mc ms : Nat} {M : aM} {pc : Nat} {ls st : List Value} {h : aH} {Q : Option Value → aH → Prop}
theorem Ev_ialdE {i x : Int32} {a n : Nat} (j : Nat) (hdg : decode M.2.1 pc = .ok (.iaload, 1)) (hk : hK h a = 13) (hn : hL h a = n) (hi : i.toInt = (j : Int)) (hj : j < n) (hx : hX h a j = x) (kk : Ev l G d mc ms M (pc + 1) ls (.int x :: st) h Q) : Ev l G d mc ms M pc ls (.int i :: .ref a :: st) h Q := by
  subst hx; exact Ev_ialdL j hdg hk hn hi hj kk
theorem Ev_zaldE {i x : Int32} {a n : Nat} (j : Nat) (hdg : decode M.2.1 pc = .ok (.baload, 1)) (hk : hK h a = 14) (hn : hL h a = n) (hi : i.toInt = (j : Int)) (hj : j < n) (hx : hX h a j = x) (kk : Ev l G d mc ms M (pc + 1) ls (.int x :: st) h Q) : Ev l G d mc ms M pc ls (.int i :: .ref a :: st) h Q := by
  subst hx; exact Ev_zaldL j hdg hk hn hi hj kk
end EV
theorem hX_up (h : aH) (a j : Nat) (v : Int32) : hX (sX h a j v) a = up1 (hX h a) j v := by
  funext i
  by_cases e : i = j
  · subst e; rw [hX_s, up1_s]
  · rw [hX_n _ _ e, up1_n _ _ e]
/-- a row g' is g with k places from o on taken from f at s -/
def CpF (f g g' : Nat → Int32) (o s k : Nat) : Prop := ∀ i, g' i = if o ≤ i ∧ i < o + k then f (s + (i - o)) else g i
theorem CpF.zero {f g : Nat → Int32} {o s : Nat} : CpF f g g o s 0 := fun i => by rw [if_neg (by omega)]
theorem CpF.step {f g g' : Nat → Int32} {o s k : Nat} {v : Int32} (c : CpF f g g' o s k) (hv : v = f (s + k)) : CpF f g (up1 g' (o + k) v) o s (k + 1) := by
  intro i
  by_cases e : i = o + k
  · subst e; rw [up1_s, if_pos (by omega), hv, show o + k - o = k by omega]
  · rw [up1_n _ _ e, c i]
    by_cases q : o ≤ i ∧ i < o + k
    · rw [if_pos q, if_pos (by omega)]
    · rw [if_neg q, if_neg (by omega)]
theorem CpF.out {f g g' : Nat → Int32} {o s k i : Nat} (c : CpF f g g' o s k) (hi : i < o ∨ o + k ≤ i) : g' i = g i := by rw [c i, if_neg (by omega)]
theorem CpF.in {f g g' : Nat → Int32} {o s k i : Nat} (c : CpF f g g' o s k) (hi : i < k) : g' (o + i) = f (s + i) := by rw [c (o + i), if_pos (by omega), show o + i - o = i by omega]
def itW (h : aH) (o_ : Nat) (it : It) (on tw : Nat) : Prop := (it.1 = 0 → tw = it.2.2.2.length ∧ on + tw ≤ 120 ∧ ∀ j, j < tw → hX h 40 (o_ + on + j) = it.2.2.2.getD j 0) ∧ (it.1 ≠ 0 → on = it.2.1 ∧ tw = it.2.2.1)
/-- the rules in the reference -/
def RRu (ru : Nat → List It) (h : aH) : Prop := ∀ k, k < 8 → (ru k).length ≤ 20 ∧ hX h 36 k = nI (ru k).length ∧ ∀ i it, (ru k)[i]? = some it → itOk it ∧ ∃ on tw, hX h 37 (20 * k + i) = nI it.1 ∧ hX h 38 (20 * k + i) = nI on ∧ hX h 39 (20 * k + i) = nI tw ∧ itW h (120 * k) it on tw
theorem RRu.fr {ru : Nat → List It} {h h' : aH} {ks as : List Nat} (r : RRu ru h) (f : Fr ks as h h') (h2 : 36 ∉ as ∧ 37 ∉ as ∧ 38 ∉ as ∧ 39 ∉ as ∧ 40 ∉ as) : RRu ru h' := by
  have x := f.2.2.2.2.2.2
  unfold RRu itW
  rw [x 36 h2.1, x 37 h2.2.1, x 38 h2.2.2.1, x 39 h2.2.2.2.1, x 40 h2.2.2.2.2]
  exact r
def Cp3 (kd k : Nat) (h h1 : aH) : Prop := Fr [] [37, 38, 39] h h1 ∧ CpF (hX h 37) (hX h 37) (hX h1 37) (20 * kd) 160 k ∧ CpF (hX h 38) (hX h 38) (hX h1 38) (20 * kd) 160 k ∧ CpF (hX h 39) (hX h 39) (hX h1 39) (20 * kd) 160 k
theorem ev_rule_c (l : Launch) (G : aG) (kd : Nat) (hk : kd < 8) (h : aH) (rf : Rf h) {Q : Option Value → aH → Prop} (kk_ : ∀ h1, Cp3 kd 20 h h1 → Ev l G 3 0 0 mX11_rule 119 [.ref MO, .int (nI kd), .int (nI 20)] [] h1 Q) (ms : Nat) : ∀ k, 20 - k < ms → k ≤ 20 → ∀ h1, Cp3 kd k h h1 → Ev l G 3 0 0 mX11_rule 44 [.ref MO, .int (nI kd), .int (nI k)] [] h1 Q := by
  induction ms with
  | zero => intro k hk; omega
  | succ ms ih_ =>
    intro k hk1 hk2 h1 cp_
    have rf1_ := rf.fr cp_.1
    refine Ev_iload_n dX11_rule_44 rfl ?_
    refine Ev_bipush (v := nI 20) dX11_rule_45 (by decide) ?_
    refine Ev_icmp_geN 119 dX11_rule_47 (by decide) (by omega) (by omega) (fun zb47_ => ?_) (fun zb47_ => ?_)
    · have ek_ : k = 20 := by omega
      subst ek_
      exact kk_ _ cp_
    · refine Ev_aload_n dX11_rule_50 rfl (by first | exact Or.inr ⟨_, rfl⟩ | exact rv_or _ | exact Or.inl rfl) ?_
      refine Ev_getA dX11_rule_51 fX11_34 rf1_.1 (rr_sort rf1_) ?_
      refine Ev_bipush (v := nI 20) dX11_rule_54 (by decide) ?_
      refine Ev_iload_n dX11_rule_56 rfl ?_
      refine Ev_imulN dX11_rule_57 ?_
      refine Ev_iload_n dX11_rule_58 rfl ?_
      refine Ev_iaddN dX11_rule_59 ?_
      refine Ev_aload_n dX11_rule_60 rfl (by first | exact Or.inr ⟨_, rfl⟩ | exact rv_or _ | exact Or.inl rfl) ?_
      refine Ev_getA dX11_rule_61 fX11_34 rf1_.1 (rr_sort rf1_) ?_
      refine Ev_sipush (v := nI 160) dX11_rule_64 (by decide) ?_
      refine Ev_iload_n dX11_rule_67 rfl ?_
      refine Ev_iaddN dX11_rule_68 ?_
      refine Ev_ialdL _ dX11_rule_69 (rk_sort rf1_) (rl_sort rf1_) (hi_n (by omega)) (by omega) ?_
      refine Ev_iastL _ dX11_rule_70 (rk_sort rf1_) (rl_sort rf1_) (hi_n (by omega)) (by omega) ?_
      refine Ev_aload_n dX11_rule_71 rfl (by first | exact Or.inr ⟨_, rfl⟩ | exact rv_or _ | exact Or.inl rfl) ?_
      refine Ev_getA dX11_rule_72 fX11_37 rf1_.1 (rr_one rf1_) ?_
      refine Ev_bipush (v := nI 20) dX11_rule_75 (by decide) ?_
      refine Ev_iload_n dX11_rule_77 rfl ?_
      refine Ev_imulN dX11_rule_78 ?_
      refine Ev_iload_n dX11_rule_79 rfl ?_
      refine Ev_iaddN dX11_rule_80 ?_
      refine Ev_aload_n dX11_rule_81 rfl (by first | exact Or.inr ⟨_, rfl⟩ | exact rv_or _ | exact Or.inl rfl) ?_
      refine Ev_getA dX11_rule_82 fX11_37 rf1_.1 (rr_one rf1_) ?_
      refine Ev_sipush (v := nI 160) dX11_rule_85 (by decide) ?_
      refine Ev_iload_n dX11_rule_88 rfl ?_
      refine Ev_iaddN dX11_rule_89 ?_
      refine Ev_ialdL _ dX11_rule_90 (rk_one rf1_) (rl_one rf1_) (hi_n (by omega)) (by omega) ?_
      refine Ev_iastL _ dX11_rule_91 (rk_one rf1_) (rl_one rf1_) (hi_n (by omega)) (by omega) ?_
      refine Ev_aload_n dX11_rule_92 rfl (by first | exact Or.inr ⟨_, rfl⟩ | exact rv_or _ | exact Or.inl rfl) ?_
      refine Ev_getA dX11_rule_93 fX11_40 rf1_.1 (rr_two rf1_) ?_
      refine Ev_bipush (v := nI 20) dX11_rule_96 (by decide) ?_
      refine Ev_iload_n dX11_rule_98 rfl ?_
      refine Ev_imulN dX11_rule_99 ?_
      refine Ev_iload_n dX11_rule_100 rfl ?_
      refine Ev_iaddN dX11_rule_101 ?_
      refine Ev_aload_n dX11_rule_102 rfl (by first | exact Or.inr ⟨_, rfl⟩ | exact rv_or _ | exact Or.inl rfl) ?_
      refine Ev_getA dX11_rule_103 fX11_40 rf1_.1 (rr_two rf1_) ?_
      refine Ev_sipush (v := nI 160) dX11_rule_106 (by decide) ?_
      refine Ev_iload_n dX11_rule_109 rfl ?_
      refine Ev_iaddN dX11_rule_110 ?_
      refine Ev_ialdL _ dX11_rule_111 (rk_two rf1_) (rl_two rf1_) (hi_n (by omega)) (by omega) ?_
      refine Ev_iastL _ dX11_rule_112 (rk_two rf1_) (rl_two rf1_) (hi_n (by omega)) (by omega) ?_
      refine Ev_iincN 1 dX11_rule_113 (by decide) (by decide) rfl ?_
      refine Ev_goto 44 dX11_rule_116 (by decide) ?_
      refine ih_ (k + 1) (by omega) (by omega) _ ⟨((cp_.1.tr (Fr.row (by decide))).tr (Fr.row (by decide))).tr (Fr.row (by decide)), ?_, ?_, ?_⟩
      · rw [hX_o _ _ (by decide), hX_o _ _ (by decide), hX_up]
        exact cp_.2.1.step (cp_.2.1.out (by omega))
      · rw [hX_o _ _ (by decide), hX_up, hX_o _ _ (by decide)]
        exact cp_.2.2.1.step (cp_.2.2.1.out (by omega))
      · rw [hX_up, hX_o _ _ (by decide), hX_o _ _ (by decide)]
        exact cp_.2.2.2.step (cp_.2.2.2.out (by omega))
theorem ev_rule_b (l : Launch) (G : aG) (kd : Nat) (hk : kd < 8) (bs : List Int32) (h : aH) (rf : Rf h) {Q : Option Value → aH → Prop} (kk_ : ∀ h1, Fr [] [40] h h1 → CpF (hX h 41) (hX h 40) (hX h1 40) (120 * kd) 0 bs.length → RTp bs h1 → Ev l G 3 0 0 mX11_rule 152 [.ref MO, .int (nI kd), .int (nI bs.length)] [] h1 Q) (ms : Nat) : ∀ k, bs.length - k < ms → k ≤ bs.length → ∀ h1, Fr [] [40] h h1 → CpF (hX h 41) (hX h 40) (hX h1 40) (120 * kd) 0 k → RTp bs h1 → Ev l G 3 0 0 mX11_rule 121 [.ref MO, .int (nI kd), .int (nI k)] [] h1 Q := by
  induction ms with
  | zero => intro k hk; omega
  | succ ms ih_ =>
    intro k hk1 hk2 h1 fr_ cp_ rt_
    have rf1_ := rf.fr fr_
    have b120_ := rt_.1
    refine Ev_iload_n dX11_rule_121 rfl ?_
    refine Ev_aload_n dX11_rule_122 rfl (by first | exact Or.inr ⟨_, rfl⟩ | exact rv_or _ | exact Or.inl rfl) ?_
    refine Ev_getE dX11_rule_123 fX11_134 rf1_.1 rt_.2.1 ?_
    refine Ev_icmp_geN 152 dX11_rule_126 (by decide) (by omega) (by omega) (fun zb126_ => ?_) (fun zb126_ => ?_)
    · have ek_ : k = bs.length := by omega
      subst ek_
      exact kk_ _ fr_ cp_ rt_
    · refine Ev_aload_n dX11_rule_129 rfl (by first | exact Or.inr ⟨_, rfl⟩ | exact rv_or _ | exact Or.inl rfl) ?_
      refine Ev_getA dX11_rule_130 fX11_43 rf1_.1 (rr_ruleBytes rf1_) ?_
      refine Ev_bipush (v := nI 120) dX11_rule_133 (by decide) ?_
      refine Ev_iload_n dX11_rule_135 rfl ?_
      refine Ev_imulN dX11_rule_136 ?_
      refine Ev_iload_n dX11_rule_137 rfl ?_
      refine Ev_iaddN dX11_rule_138 ?_
      refine Ev_aload_n dX11_rule_139 rfl (by first | exact Or.inr ⟨_, rfl⟩ | exact rv_or _ | exact Or.inl rfl) ?_
      refine Ev_getA dX11_rule_140 fX11_53 rf1_.1 (rr_tape rf1_) ?_
      refine Ev_iload_n dX11_rule_143 rfl ?_
      refine Ev_ialdL _ dX11_rule_144 (rk_tape rf1_) (rl_tape rf1_) (hi_n (by omega)) (by omega) ?_
      refine Ev_iastL _ dX11_rule_145 (rk_ruleBytes rf1_) (rl_ruleBytes rf1_) (hi_n (by omega)) (by omega) ?_
      refine Ev_iincN 1 dX11_rule_146 (by decide) (by decide) rfl ?_
      refine Ev_goto 121 dX11_rule_149 (by decide) ?_
      refine ih_ (k + 1) (by omega) (by omega) _ (fr_.tr (Fr.row (by decide))) ?_ ⟨rt_.1, rt_.2.1, fun j hj => (congrFun (hX_o _ _ (by decide)) j).trans (rt_.2.2 j hj)⟩
      rw [hX_up]
      exact cp_.step (by rw [fr_.2.2.2.2.2.2 41 (by decide)]; simp)
theorem RRu.set {ru : Nat → List It} {kd : Nat} {bs : List Int32} {its : List It} {h h1 h4 h5 h6 : aH} (r : RRu ru h) (hk : kd < 8) (f1 : FPr h h1) (p1 : RPr bs bs.length its false h1) (e4 : hX h4 = up2 (hX h1) 36 kd (nI its.length)) (c5 : Cp3 kd 20 h4 h5) (f6 : Fr [] [40] h5 h6) (c6 : CpF (hX h5 41) (hX h5 40) (hX h6 40) (120 * kd) 0 bs.length) : RRu (up1 ru kd its) h6 := by
  have b120 := p1.1.1
  have e36 : ∀ k, hX h6 36 k = if k = kd then nI its.length else hX h 36 k := fun k => by
    rw [f6.2.2.2.2.2.2 36 (by decide), c5.1.2.2.2.2.2.2 36 (by decide), e4]
    by_cases e : k = kd
    · subst e; rw [up2_s, if_pos rfl]
    · rw [up2_n _ _ e, if_neg e, f1.1.2.2.2.2.2.2 36 (by decide)]
  have r4 : ∀ a, a ≠ 36 → hX h4 a = hX h1 a := fun a ha => by
    rw [e4]; funext j; exact up2_k _ _ ha
  have e40 : hX h5 40 = hX h 40 := by rw [c5.1.2.2.2.2.2.2 40 (by decide), r4 40 (by decide), f1.1.2.2.2.2.2.2 40 (by decide)]
  have e41 : hX h5 41 = hX h1 41 := by rw [c5.1.2.2.2.2.2.2 41 (by decide), r4 41 (by decide)]
  intro k hk8
  rw [e36]
  by_cases e : k = kd
  · subst e
    rw [if_pos rfl, up1_s]
    refine ⟨p1.2.2.2.2.2.1, rfl, fun i it hi => ?_⟩
    have hl := (List.getElem?_eq_some_iff.mp hi).1
    have h20 := p1.2.2.2.2.2.1
    obtain ⟨ok, on, tw, a1, a2, a3, a4⟩ := p1.2.2.2.2.2.2 i it hi
    refine ⟨ok, on, tw, ?_, ?_, ?_, fun z => ?_, a4.2⟩
    · rw [f6.2.2.2.2.2.2 37 (by decide), c5.2.1.in (by omega), r4 37 (by decide)]; exact a1
    · rw [f6.2.2.2.2.2.2 38 (by decide), c5.2.2.1.in (by omega), r4 38 (by decide)]; exact a2
    · rw [f6.2.2.2.2.2.2 39 (by decide), c5.2.2.2.in (by omega), r4 39 (by decide)]; exact a3
    · obtain ⟨b1, b2, b3⟩ := a4.1 z
      refine ⟨b1, by omega, fun j hj => ?_⟩
      rw [Nat.add_assoc, c6.in (by omega), e41, Nat.zero_add, p1.1.2.2 _ (by omega)]
      exact b3 j hj
  · rw [if_neg e, up1_n _ _ e]
    obtain ⟨a1, a2, a3⟩ := r k hk8
    refine ⟨a1, a2, fun i it hi => ?_⟩
    have hl := (List.getElem?_eq_some_iff.mp hi).1
    obtain ⟨ok, on, tw, b1, b2, b3, b4⟩ := a3 i it hi
    have hf := f1.2 (20 * k + i) (by omega)
    refine ⟨ok, on, tw, ?_, ?_, ?_, fun z => ?_, b4.2⟩
    · rw [f6.2.2.2.2.2.2 37 (by decide), c5.2.1.out (by omega), r4 37 (by decide), hf.1]; exact b1
    · rw [f6.2.2.2.2.2.2 38 (by decide), c5.2.2.1.out (by omega), r4 38 (by decide), hf.2.1]; exact b2
    · rw [f6.2.2.2.2.2.2 39 (by decide), c5.2.2.2.out (by omega), r4 39 (by decide), hf.2.2]; exact b3
    · obtain ⟨d1, d2, d3⟩ := b4.1 z
      refine ⟨d1, d2, fun j hj => ?_⟩
      rw [c6.out (by omega), e40]; exact d3 j hj
theorem hI_a (h : aH) {k k' a b : Nat} (v : Int32) (e : b ≠ a) : hI (sI h k a v) k' b = hI h k' b := up2_n _ _ e
theorem Ev_gen {l : Launch} {G : aG} {d mc ms : Nat} {M : aM} {pc : Nat} {ls st : List Value} {h : aH} {Q : Option Value → aH → Prop} (P : aH → Prop) (p : P h) (k : ∀ h, P h → Ev l G d mc ms M pc ls st h Q) : Ev l G d mc ms M pc ls st h Q := k h p
theorem ev_rule (l : Launch) (G : aG) (kd : Int32) (bs : List Int32) (ru : Nat → List It) (h : aH) (rf : Rf h) (rt_ : RTp bs h) (ru_ : RRu ru h) : Ev l G 3 0 0 mX11_rule 0 (en 3 [.ref MO, .int kd]) [] h (fun x h' => (¬ (0 ≤ kd.toInt ∧ kd.toInt ≤ 7) ∧ x = some (.int (-1)) ∧ h' = h) ∨ (∃ k, k < 8 ∧ kd = nI k ∧ Fr [782, 783, 785, 786, 787, 788] [36, 37, 38, 39, 40] h h' ∧ RTp [] h' ∧ ((∃ f pl, rdF bs = .inl (f, pl) ∧ x = some (.int (-1)) ∧ RFa (nI f, nI pl) h' ∧ RRu ru h') ∨ (∃ its, rdF bs = .inr its ∧ x = some (.int (nI its.length)) ∧ RFa (nI 0, -1) h' ∧ RRu (up1 ru k its) h')))) := by
  refine Ev_iload_n dX11_rule_0 rfl ?_
  refine Ev_iconst (v := nI 0) dX11_rule_1 (by decide) ?_
  refine Ev_bipush (v := nI 7) dX11_rule_2 (by decide) ?_
  refine Ev_S0 [.int kd, .int (nI 0), .int (nI 7)] dX11_rule_4 sX11_isIn kX11_130 rfl rfl rfl (Nat.le_of_ble_eq_true rfl) (by omega) (ev_isIn l G _ _ _ _) ?_
  refine Ev_if_neB 12 dX11_rule_7 (by decide) (fun zb7_ => ?_) (fun zb7_ => ?_)
  · have zk_ := inB_t t0 t7 zb7_
    obtain ⟨k, hk_, rfl⟩ := as_nI (n := 7) zk_.1 (by omega)
    refine Ev_aload_n dX11_rule_12 rfl (by first | exact Or.inr ⟨_, rfl⟩ | exact rv_or _ | exact Or.inl rfl) ?_
    refine Ev_aload_n dX11_rule_13 rfl (by first | exact Or.inr ⟨_, rfl⟩ | exact rv_or _ | exact Or.inl rfl) ?_
    refine Ev_Vz [] dX11_rule_14 vX11_readRule kX11_191 rf.1 rfl rfl rfl (Nat.le_of_ble_eq_true rfl) (by omega) (ev_readRule l G bs h rf rt_) (fun v_ h1 e_ => ?_)
    obtain ⟨f, pl, rd_, f0_, f5_, pl_, rfl, ep_, fp_, rt1_⟩ | ⟨its, rd_, rfl, fp_, pr_⟩ := e_
    · have rf1_ := rf.fr fp_.1
      refine Ev_putI dX11_rule_17 fX11_46 ⟨_, rfl, Or.inl rfl⟩ (Or.inl rfl) rf1_.1 ?_
      refine Ev_aload_n dX11_rule_20 rfl (by first | exact Or.inr ⟨_, rfl⟩ | exact rv_or _ | exact Or.inl rfl) ?_
      refine Ev_getE dX11_rule_21 fX11_46 rf1_.1 (hI_s _ _ _ _) ?_
      refine Ev_if_neT 152 dX11_rule_24 (by decide) (fun zb24_ => ?_) (fun zb24_ => ?_)
      · refine Ev_aload_n dX11_rule_152 rfl (by first | exact Or.inr ⟨_, rfl⟩ | exact rv_or _ | exact Or.inl rfl) ?_
        refine Ev_iconst (v := nI 0) dX11_rule_153 (by decide) ?_
        refine Ev_putI dX11_rule_154 fX11_134 ⟨_, rfl, Or.inl rfl⟩ (Or.inl rfl) rf1_.1 ?_
        refine Ev_aload_n dX11_rule_157 rfl (by first | exact Or.inr ⟨_, rfl⟩ | exact rv_or _ | exact Or.inl rfl) ?_
        refine Ev_getE dX11_rule_158 fX11_46 rf1_.1 ((hI_o _ _ (by decide)).trans (hI_s _ _ _ _)) ?_
        refine Ev_if_neT 171 dX11_rule_161 (by decide) (fun zb161_ => ?_) (fun zb161_ => ?_)
        · refine Ev_iconst (v := -1) dX11_rule_171 (by decide) ?_
          refine Ev_iret dX11_rule_172 rfl ?_
          have f2_ : Fr [782, 783, 785, 786, 787, 788] [36, 37, 38, 39, 40] h (sI (sI h1 782 MO (nI f)) 785 MO (nI 0)) := ((fp_.1.mo (by decide) (by decide)).tr (Fr.int (by decide))).tr (Fr.int (by decide))
          refine Or.inr ⟨k, by omega, rfl, f2_, ⟨by simp, hI_s _ _ _ _, fun j hj => by simp at hj⟩, Or.inl ⟨f, pl, rd_, rfl, ⟨(hI_o _ _ (by decide)).trans (hI_s _ _ _ _), (hI_o _ _ (by decide)).trans ((hI_o _ _ (by decide)).trans ep_)⟩, ?_⟩⟩
          refine fun k' hk' => ?_
          obtain ⟨a1, a2, a3⟩ := ru_ k' hk'
          refine ⟨a1, (congrFun (fp_.1.2.2.2.2.2.2 36 (by decide)) k').trans a2, fun i it hi => ?_⟩
          have hl := (List.getElem?_eq_some_iff.mp hi).1
          obtain ⟨ok, on, tw, b1, b2, b3, b4⟩ := a3 i it hi
          have hf := fp_.2 (20 * k' + i) (by omega)
          exact ⟨ok, on, tw, hf.1.trans b1, hf.2.1.trans b2, hf.2.2.trans b3, fun z => ⟨(b4.1 z).1, (b4.1 z).2.1, fun j hj => (congrFun (fp_.1.2.2.2.2.2.2 40 (by decide)) _).trans ((b4.1 z).2.2 j hj)⟩, b4.2⟩
        · exact absurd zb161_ (by rw [hi_n (by omega)]; omega)
      · exact absurd zb24_ (by rw [hi_n (by omega)]; omega)
    · have rf1_ := rf.fr fp_.1
      have b20_ := pr_.2.2.2.2.2.1
      have b120_ := pr_.1.1
      refine Ev_putI dX11_rule_17 fX11_46 ⟨_, rfl, Or.inl rfl⟩ (Or.inl rfl) rf1_.1 ?_
      refine Ev_aload_n dX11_rule_20 rfl (by first | exact Or.inr ⟨_, rfl⟩ | exact rv_or _ | exact Or.inl rfl) ?_
      refine Ev_getE dX11_rule_21 fX11_46 rf1_.1 (hI_s _ _ _ _) ?_
      refine Ev_if_neT 152 dX11_rule_24 (by decide) (fun zb24_ => ?_) (fun zb24_ => ?_)
      · exact absurd t0 zb24_
      · refine Ev_aload_n dX11_rule_27 rfl (by first | exact Or.inr ⟨_, rfl⟩ | exact rv_or _ | exact Or.inl rfl) ?_
        refine Ev_iconst (v := -1) dX11_rule_28 (by decide) ?_
        refine Ev_putI dX11_rule_29 fX11_50 ⟨_, rfl, Or.inl rfl⟩ (Or.inl rfl) rf1_.1 ?_
        refine Ev_aload_n dX11_rule_32 rfl (by first | exact Or.inr ⟨_, rfl⟩ | exact rv_or _ | exact Or.inl rfl) ?_
        refine Ev_getA dX11_rule_33 fX11_31 rf1_.1 (rr_items rf1_) ?_
        refine Ev_iload_n dX11_rule_36 rfl ?_
        refine Ev_aload_n dX11_rule_37 rfl (by first | exact Or.inr ⟨_, rfl⟩ | exact rv_or _ | exact Or.inl rfl) ?_
        refine Ev_getE dX11_rule_38 fX11_170 rf1_.1 (((hI_o _ _ (by decide)).trans (hI_o _ _ (by decide))).trans pr_.2.2.2.1) ?_
        refine Ev_iastL _ dX11_rule_41 (rk_items rf1_) (rl_items rf1_) (hi_n (by omega)) (by omega) ?_
        refine Ev_iconst (v := nI 0) dX11_rule_42 (by decide) ?_
        refine Ev_istore_n dX11_rule_43 (by decide) ?_
        refine Ev_gen (fun h4 => (∀ q_ a_, a_ ≠ MO ∨ (q_ ≠ 782 ∧ q_ ≠ 783) → hI h4 q_ a_ = hI h1 q_ a_) ∧ hI h4 782 MO = nI 0 ∧ hI h4 783 MO = -1 ∧ hX h4 = up2 (hX h1) 36 k (nI its.length) ∧ Fr [782, 783] [36] h1 h4) ⟨?_, (gI_X _ _ _ _ _ _).trans ((hI_o _ _ (by decide)).trans (hI_s _ _ _ _)), (gI_X _ _ _ _ _ _).trans (hI_s _ _ _ _), rfl, ((Fr.int (by decide)).tr (Fr.int (by decide))).tr (Fr.row (by decide))⟩ (fun h4 z_ => ?_)
        · intro q_ a_ hq
          rcases hq with hq | hq
          · exact (gI_X _ _ _ _ _ _).trans ((hI_a _ _ hq).trans (hI_a _ _ hq))
          · exact (gI_X _ _ _ _ _ _).trans ((hI_o _ _ hq.2).trans (hI_o _ _ hq.1))
        obtain ⟨g4_, ef4_, ep4_, e4_, f4_⟩ := z_
        have rf4_ := rf1_.fr f4_
        refine ev_rule_c l G k (by omega) h4 rf4_ (fun h5 c5_ => ?_) 21 0 (by omega) (by omega) _ ⟨Fr.rf, CpF.zero, CpF.zero, CpF.zero⟩
        have rf5_ := rf4_.fr c5_.1
        have rt5_ : RTp bs h5 := by
          refine ⟨pr_.1.1, ?_, fun j hj => ?_⟩
          · rw [c5_.1.2.2.2.2.2.1 785 MO (fun z => absurd z.2 (by decide)), g4_ _ _ (Or.inr (by decide))]; exact pr_.1.2.1
          · rw [c5_.1.2.2.2.2.2.2 41 (by decide), f4_.2.2.2.2.2.2 41 (by decide)]; exact pr_.1.2.2 j hj
        refine Ev_iconst (v := nI 0) dX11_rule_119 (by decide) ?_
        refine Ev_istore_n dX11_rule_120 (by decide) ?_
        refine ev_rule_b l G k (by omega) bs h5 rf5_ (fun h6 f6_ c6_ rt6_ => ?_) 121 0 (by omega) (by omega) _ Fr.rf CpF.zero rt5_
        have rf6_ := rf5_.fr f6_
        have g6_ : ∀ q_ a_, hI h6 q_ a_ = hI h4 q_ a_ := fun q_ a_ => by rw [f6_.2.2.2.2.2.1 q_ a_ (fun z => absurd z.2 (by simp)), c5_.1.2.2.2.2.2.1 q_ a_ (fun z => absurd z.2 (by simp))]
        have ef_ : hI (sI h6 785 MO (nI 0)) 782 MO = nI 0 := (hI_o _ _ (by decide)).trans ((g6_ _ _).trans ef4_)
        have ep_ : hI (sI h6 785 MO (nI 0)) 783 MO = -1 := (hI_o _ _ (by decide)).trans ((g6_ _ _).trans ep4_)
        have er_ : hI (sI h6 785 MO (nI 0)) 787 MO = nI its.length := (hI_o _ _ (by decide)).trans ((g6_ _ _).trans ((g4_ _ _ (Or.inr (by decide))).trans pr_.2.2.2.1))
        have ff_ : Fr [782, 783, 785, 786, 787, 788] [36, 37, 38, 39, 40] h h6 := (((fp_.1.mo (by decide) (by decide)).tr (f4_.mo (by decide) (by decide))).tr (c5_.1.mo (by decide) (by decide))).tr (f6_.mo (by decide) (by decide))
        refine Ev_aload_n dX11_rule_152 rfl (by first | exact Or.inr ⟨_, rfl⟩ | exact rv_or _ | exact Or.inl rfl) ?_
        refine Ev_iconst (v := nI 0) dX11_rule_153 (by decide) ?_
        refine Ev_putI dX11_rule_154 fX11_134 ⟨_, rfl, Or.inl rfl⟩ (Or.inl rfl) rf6_.1 ?_
        refine Ev_aload_n dX11_rule_157 rfl (by first | exact Or.inr ⟨_, rfl⟩ | exact rv_or _ | exact Or.inl rfl) ?_
        refine Ev_getE dX11_rule_158 fX11_46 rf6_.1 ef_ ?_
        refine Ev_if_neT 171 dX11_rule_161 (by decide) (fun zb161_ => ?_) (fun zb161_ => ?_)
        · exact absurd t0 zb161_
        · refine Ev_aload_n dX11_rule_164 rfl (by first | exact Or.inr ⟨_, rfl⟩ | exact rv_or _ | exact Or.inl rfl) ?_
          refine Ev_getE dX11_rule_165 fX11_170 rf6_.1 er_ ?_
          refine Ev_goto 172 dX11_rule_168 (by decide) ?_
          refine Ev_iret dX11_rule_172 rfl ?_
          refine Or.inr ⟨k, by omega, rfl, ff_.tr (Fr.int (by decide)), ⟨by simp, hI_s _ _ _ _, fun j hj => by simp at hj⟩, Or.inr ⟨its, rd_, rfl, ⟨ef_, ep_⟩, ?_⟩⟩
          exact RRu.set (h1 := h1) (h4 := h4) (h5 := h5) (h6 := h6) ru_ (by omega) fp_ pr_ e4_ c5_ f6_ c6_
  · have zk_ := inB_f t0 t7 zb7_
    refine Ev_iconst (v := -1) dX11_rule_10 (by decide) ?_
    refine Ev_iret dX11_rule_11 rfl ?_
    exact Or.inl ⟨zk_, rfl, rfl⟩
