/-- a byte that goes on with a word -/
def gdB (bs : List Int32) (k : Nat) : Bool := decide (k < bs.length ∧ 32 ≤ sv bs k ∧ sv bs k ≤ 126 ∧ sv bs k ≠ 60)
theorem gdB_iff {bs : List Int32} {k : Nat} : gdB bs k = true ↔ k < bs.length ∧ 32 ≤ sv bs k ∧ sv bs k ≤ 126 ∧ sv bs k ≠ 60 := by simp [gdB]
def wE (bs : List Int32) : Nat → Nat → Nat
  | 0, a => a
  | n + 1, a => if gdB bs a = true then wE bs n (a + 1) else a
theorem wE_eq {bs : List Int32} : ∀ {n a e : Nat}, a ≤ e → (∀ j, a ≤ j → j < e → gdB bs j = true) → ¬ gdB bs e = true → e - a < n → wE bs n a = e := by
  intro n
  induction n with
  | zero => intro a e _ _ _ h; omega
  | succ n ih_ =>
    intro a e h1 h2 h3 h4
    show (if gdB bs a = true then wE bs n (a + 1) else a) = e
    by_cases z : a = e
    · subst z; rw [if_neg h3]
    · rw [if_pos (h2 a (by omega) (by omega))]
      exact ih_ (by omega) (fun j q1 q2 => h2 j (by omega) q2) h3 (by omega)
def wEnd (bs : List Int32) (a : Nat) : Nat := wE bs 122 a
def wItem (bs : List Int32) (a e : Nat) : It := (0, 0, 0, (bs.drop a).take (e - a))
/-- the reading of a rule: a fault and its place, or the items -/
def prs (bs : List Int32) : Nat → Nat → List It → Bool → (Nat × Nat) ⊕ List It
  | 0, _, its, _ => .inr its
  | n + 1, a, its, wn => if a < bs.length then (if sv bs a = 60 then (match sgF bs a its.length wn with
      | .inl f => .inl (f, a)
      | .inr (it, w, wn') => prs bs n (a + w) (its ++ [it]) wn') else if 32 ≤ sv bs a ∧ sv bs a ≤ 126 then (if its.length = 20 then .inl (5, a) else if wEnd bs a < bs.length ∧ sv bs (wEnd bs a) ≠ 60 then .inl (1, wEnd bs a) else prs bs n (wEnd bs a) (its ++ [wItem bs a (wEnd bs a)]) wn) else .inl (1, a)) else if wn = true then .inl (4, bs.length) else .inr its
def rdF (bs : List Int32) : (Nat × Nat) ⊕ List It := prs bs 121 0 [] false
theorem prs_end {bs : List Int32} {n a : Nat} {its : List It} {wn : Bool} (h : ¬ a < bs.length) : prs bs (n + 1) a its wn = if wn = true then .inl (4, bs.length) else .inr its := if_neg h
theorem prs_sgF {bs : List Int32} {n a f : Nat} {its : List It} {wn : Bool} (h : a < bs.length) (h1 : sv bs a = 60) (h2 : sgF bs a its.length wn = .inl f) : prs bs (n + 1) a its wn = .inl (f, a) := by
  show (if a < bs.length then _ else _) = _
  rw [if_pos h, if_pos h1, h2]
theorem prs_sgO {bs : List Int32} {n a w : Nat} {its : List It} {wn wn' : Bool} {it : It} (h : a < bs.length) (h1 : sv bs a = 60) (h2 : sgF bs a its.length wn = .inr (it, w, wn')) : prs bs (n + 1) a its wn = prs bs n (a + w) (its ++ [it]) wn' := by
  show (if a < bs.length then _ else _) = _
  rw [if_pos h, if_pos h1, h2]
theorem prs_bad {bs : List Int32} {n a : Nat} {its : List It} {wn : Bool} (h : a < bs.length) (h1 : ¬ sv bs a = 60) (h2 : ¬ (32 ≤ sv bs a ∧ sv bs a ≤ 126)) : prs bs (n + 1) a its wn = .inl (1, a) := by
  show (if a < bs.length then _ else _) = _
  rw [if_pos h, if_neg h1, if_neg h2]
theorem prs_w {bs : List Int32} {n a : Nat} {its : List It} {wn : Bool} (h : a < bs.length) (h1 : ¬ sv bs a = 60) (h2 : 32 ≤ sv bs a ∧ sv bs a ≤ 126) : prs bs (n + 1) a its wn = if its.length = 20 then .inl (5, a) else if wEnd bs a < bs.length ∧ sv bs (wEnd bs a) ≠ 60 then .inl (1, wEnd bs a) else prs bs n (wEnd bs a) (its ++ [wItem bs a (wEnd bs a)]) wn := by
  show (if a < bs.length then _ else _) = _
  rw [if_pos h, if_neg h1, if_pos h2]
theorem RTp.svE {bs : List Int32} {h : aH} (r : RTp bs h) {k : Nat} (hk : k < bs.length) : (hX h 41 k).toInt = sv bs k := by
  rw [r.2.2 k hk]; unfold sv seeL; rw [if_pos hk]
theorem sv_at {bs : List Int32} {k : Nat} (hk : k < bs.length) : sv bs k = (bs.getD k 0).toInt := by unfold sv seeL; rw [if_pos hk]
theorem getD_dt (bs : List Int32) (a n k : Nat) (hk : k < n) : ((bs.drop a).take n).getD k 0 = bs.getD (a + k) 0 := by
  rw [List.getD_eq_getElem?_getD, List.getElem?_take, if_pos hk, List.getElem?_drop, List.getD_eq_getElem?_getD]
theorem len_dt (bs : List Int32) {a e : Nat} (h1 : a ≤ e) (h2 : e ≤ bs.length) : ((bs.drop a).take (e - a)).length = e - a := by
  rw [List.length_take, List.length_drop]; omega
theorem wItem_ok {bs : List Int32} {a e : Nat} (h1 : a < e) (h2 : e ≤ bs.length) (h3 : bs.length ≤ 120) : itOk (wItem bs a e) := by
  have := len_dt bs (Nat.le_of_lt h1) h2
  refine ⟨Nat.zero_le 7, ?_, ?_, ?_, fun _ => ?_, ?_, ?_⟩
  · intro q; simp [wItem] at q
  · intro q; simp [wItem] at q
  · intro q; simp [wItem] at q
  · show 1 ≤ ((bs.drop a).take (e - a)).length ∧ ((bs.drop a).take (e - a)).length ≤ 120
    omega
  · simp [wItem]
  · simp [wItem]
/-- within a word -/
def WdI (bs : List Int32) (fr k : Nat) (its : List It) (wn : Bool) (h h1 : aH) : Prop := FPr h h1 ∧ RTp bs h1 ∧ hI h1 786 MO = nI k ∧ hI h1 787 MO = nI (its.length + 1) ∧ hI h1 788 MO = bI wn ∧ hX h1 37 (160 + its.length) = nI 0 ∧ hX h1 38 (160 + its.length) = nI fr ∧ ∀ i it, its[i]? = some it → itOk it ∧ ∃ on tw, hX h1 37 (160 + i) = nI it.1 ∧ hX h1 38 (160 + i) = nI on ∧ hX h1 39 (160 + i) = nI tw ∧ itR bs it on tw
theorem WdI.int {bs : List Int32} {fr k : Nat} {its : List It} {wn : Bool} {h h1 : aH} {v : Int32} (w : WdI bs fr k its wn h h1) : WdI bs fr k its wn h (sI h1 783 MO v) :=
  ⟨w.1.tr (FPr.int (by decide)), w.2.1.fp (FPr.int (by decide)), (hI_o _ _ (by decide)).trans w.2.2.1, (hI_o _ _ (by decide)).trans w.2.2.2.1, (hI_o _ _ (by decide)).trans w.2.2.2.2.1, w.2.2.2.2.2.1, w.2.2.2.2.2.2.1, w.2.2.2.2.2.2.2⟩
theorem WdI.at {bs : List Int32} {fr k k' : Nat} {its : List It} {wn : Bool} {h h1 : aH} (w : WdI bs fr k its wn h h1) : WdI bs fr k' its wn h (sI h1 786 MO (nI k')) :=
  ⟨w.1.tr (FPr.int (by decide)), w.2.1.fp (FPr.int (by decide)), hI_s _ _ _ _, (hI_o _ _ (by decide)).trans w.2.2.2.1, (hI_o _ _ (by decide)).trans w.2.2.2.2.1, w.2.2.2.2.2.1, w.2.2.2.2.2.2.1, w.2.2.2.2.2.2.2⟩
theorem WdI.fin {bs : List Int32} {fr k : Nat} {its : List It} {wn : Bool} {h h1 : aH} (w : WdI bs fr k its wn h h1) (h1_ : fr < k) (h2_ : k ≤ bs.length) (h3_ : its.length < 20) : RPr bs k (its ++ [wItem bs fr k]) wn (sX h1 39 (160 + its.length) (nI (k - fr))) := by
  have hb := w.2.1.1
  refine ⟨w.2.1.fp (FPr.row (by decide) (by omega)), h2_, w.2.2.1, by rw [List.length_append]; exact w.2.2.2.1, w.2.2.2.2.1, by rw [List.length_append]; simp; omega, fun i q hq => ?_⟩
  rw [List.getElem?_append] at hq
  by_cases e : i < its.length
  · rw [if_pos e] at hq
    obtain ⟨a1, on, tw, a2, a3, a4, a5⟩ := w.2.2.2.2.2.2.2 i q hq
    refine ⟨a1, on, tw, ?_, ?_, ?_, a5⟩
    · rw [hX_o _ _ (by decide)]; exact a2
    · rw [hX_o _ _ (by decide)]; exact a3
    · rw [hX_n _ _ (by omega)]; exact a4
  · rw [if_neg e] at hq
    have e0 : i = its.length := by
      have := (List.getElem?_eq_some_iff.mp hq).1
      simp at this
      omega
    subst e0
    simp at hq
    subst hq
    refine ⟨wItem_ok h1_ h2_ hb, fr, k - fr, ?_, ?_, hX_s _ _ _ _, fun _ => ⟨(len_dt bs (by omega) h2_).symm, by omega, fun j hj => (getD_dt bs fr (k - fr) j hj).symm⟩, fun z => absurd rfl z⟩
    · rw [hX_o _ _ (by decide)]; exact w.2.2.2.2.2.1
    · rw [hX_o _ _ (by decide)]; exact w.2.2.2.2.2.2.1
theorem t32 : (nI 32).toInt = 32 := by decide
theorem t126 : (nI 126).toInt = 126 := by decide
theorem ev_readRule_w (l : Launch) (G : aG) (bs : List Int32) (fr : Nat) (its : List It) (wn : Bool) (h : aH) (rf : Rf h) (v_ : Value) (hfr_ : gdB bs fr = true) {Q : Option Value → aH → Prop} (kk_ : ∀ e h2, wEnd bs fr = e → fr < e → e ≤ bs.length → ¬ (e < bs.length ∧ sv bs e ≠ 60) → WdI bs fr e its wn h h2 → Ev l G 2 0 0 mX11_readRule 166 [.ref MO, .int (nI fr), v_] [] h2 Q) (kf_ : ∀ e h2, wEnd bs fr = e → e < bs.length → sv bs e ≠ 60 → WdI bs fr e its wn h h2 → hI h2 783 MO = nI e → Q (some (.int (nI 1))) h2) (ms : Nat) : ∀ k, bs.length - k < ms → fr ≤ k → k ≤ bs.length → ∀ h1, WdI bs fr k its wn h h1 → (∀ j, fr ≤ j → j < k → gdB bs j = true) → Ev l G 2 0 0 mX11_readRule 99 [.ref MO, .int (nI fr), v_] [] h1 Q := by
  induction ms with
  | zero => intro k hk; omega
  | succ ms ih_ =>
    intro k hk hkf hkl h1 wd_ hg_
    have rf1_ := rf.fr wd_.1.1
    have b120_ := wd_.2.1.1
    have hf0_ := gdB_iff.mp hfr_
    refine Ev_aload_n dX11_readRule_99 rfl (by first | exact Or.inr ⟨_, rfl⟩ | exact rv_or _ | exact Or.inl rfl) ?_
    refine Ev_getE dX11_readRule_100 fX11_173 rf1_.1 wd_.2.2.1 ?_
    refine Ev_aload_n dX11_readRule_103 rfl (by first | exact Or.inr ⟨_, rfl⟩ | exact rv_or _ | exact Or.inl rfl) ?_
    refine Ev_getE dX11_readRule_104 fX11_134 rf1_.1 wd_.2.1.2.1 ?_
    refine Ev_icmp_geN 166 dX11_readRule_107 (by decide) (by omega) (by omega) (fun zb107_ => ?_) (fun zb107_ => ?_)
    · exact kk_ k h1 (wE_eq (by omega) hg_ (fun z => by have := gdB_iff.mp z; omega) (by omega)) (by
          by_cases z : fr = k
          · subst z; omega
          · omega) (by omega) (by omega) wd_
    · refine Ev_aload_n dX11_readRule_110 rfl (by first | exact Or.inr ⟨_, rfl⟩ | exact rv_or _ | exact Or.inl rfl) ?_
      refine Ev_getA dX11_readRule_111 fX11_53 rf1_.1 (rr_tape rf1_) ?_
      refine Ev_aload_n dX11_readRule_114 rfl (by first | exact Or.inr ⟨_, rfl⟩ | exact rv_or _ | exact Or.inl rfl) ?_
      refine Ev_getE dX11_readRule_115 fX11_173 rf1_.1 wd_.2.2.1 ?_
      refine Ev_ialdL _ dX11_readRule_118 (rk_tape rf1_) (rl_tape rf1_) (hi_n (by omega)) (by omega) ?_
      refine Ev_bipush (v := nI 60) dX11_readRule_119 (by decide) ?_
      refine Ev_icmp_eqT 166 dX11_readRule_121 (by decide) (fun zb121_ => ?_) (fun zb121_ => ?_)
      · rw [wd_.2.1.svE (by omega), t60] at zb121_
        exact kk_ k h1 (wE_eq (by omega) hg_ (fun z => by have := gdB_iff.mp z; omega) (by omega)) (by
          by_cases z : fr = k
          · subst z; omega
          · omega) (by omega) (by omega) wd_
      · rw [wd_.2.1.svE (by omega), t60] at zb121_
        refine Ev_aload_n dX11_readRule_124 rfl (by first | exact Or.inr ⟨_, rfl⟩ | exact rv_or _ | exact Or.inl rfl) ?_
        refine Ev_aload_n dX11_readRule_125 rfl (by first | exact Or.inr ⟨_, rfl⟩ | exact rv_or _ | exact Or.inl rfl) ?_
        refine Ev_getE dX11_readRule_126 fX11_173 rf1_.1 wd_.2.2.1 ?_
        refine Ev_putI dX11_readRule_129 fX11_50 ⟨_, rfl, Or.inl rfl⟩ (Or.inl rfl) rf1_.1 ?_
        refine Ev_aload_n dX11_readRule_132 rfl (by first | exact Or.inr ⟨_, rfl⟩ | exact rv_or _ | exact Or.inl rfl) ?_
        refine Ev_getA dX11_readRule_133 fX11_53 rf1_.1 (rr_tape rf1_) ?_
        refine Ev_aload_n dX11_readRule_136 rfl (by first | exact Or.inr ⟨_, rfl⟩ | exact rv_or _ | exact Or.inl rfl) ?_
        refine Ev_getE dX11_readRule_137 fX11_173 rf1_.1 wd_.2.2.1 ?_
        refine Ev_ialdL _ dX11_readRule_140 (rk_tape rf1_) (rl_tape rf1_) (hi_n (by omega)) (by omega) ?_
        refine Ev_bipush (v := nI 32) dX11_readRule_141 (by decide) ?_
        refine Ev_bipush (v := nI 126) dX11_readRule_143 (by decide) ?_
        refine Ev_S0 [.int (hX h1 41 k), .int (nI 32), .int (nI 126)] dX11_readRule_145 sX11_isIn kX11_130 rfl rfl rfl (Nat.le_of_ble_eq_true rfl) (by omega) (ev_isIn l G _ _ _ _) ?_
        refine Ev_if_neB 153 dX11_readRule_148 (by decide) (fun zb148_ => ?_) (fun zb148_ => ?_)
        · have zd_ := inB_t t32 t126 zb148_
          rw [wd_.2.1.svE (by omega)] at zd_
          refine Ev_aload_n dX11_readRule_153 rfl (by first | exact Or.inr ⟨_, rfl⟩ | exact rv_or _ | exact Or.inl rfl) ?_
          refine Ev_dup dX11_readRule_154 (by first | rfl | exact okv_rv _) ?_
          refine Ev_getE dX11_readRule_155 fX11_173 rf1_.1 wd_.2.2.1 ?_
          refine Ev_iconst (v := nI 1) dX11_readRule_158 (by decide) ?_
          refine Ev_iaddN dX11_readRule_159 ?_
          refine Ev_putI dX11_readRule_160 fX11_173 ⟨_, rfl, Or.inl rfl⟩ (Or.inl rfl) rf1_.1 ?_
          refine Ev_goto 99 dX11_readRule_163 (by decide) ?_
          refine ih_ (k + 1) (by omega) (by omega) (by omega) _ wd_.int.at (fun j q1 q2 => ?_)
          by_cases e : j = k
          · rw [e]; exact gdB_iff.mpr ⟨by omega, by omega, by omega, by omega⟩
          · exact hg_ j q1 (by omega)
        · have zd_ := inB_f t32 t126 zb148_
          rw [wd_.2.1.svE (by omega)] at zd_
          refine Ev_iconst (v := nI 1) dX11_readRule_151 (by decide) ?_
          refine Ev_iret dX11_readRule_152 rfl ?_
          exact kf_ k _ (wE_eq (by omega) hg_ (fun z => by have := gdB_iff.mp z; omega) (by omega)) (by omega) zb121_ wd_.int (hI_s _ _ _ _)
