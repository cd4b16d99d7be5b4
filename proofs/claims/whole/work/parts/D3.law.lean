/-! the start -/
def m0 : Md := (fun _ => (0, 0, none, 0), 0, fun _ => none, fun _ => [], fun _ _ => 0, fun _ => [])
def ow0 : Ow := fun a => if 28 ≤ a ∧ a ≤ 65 then (8, a) else if a ∈ [1, 3, 4, 5, 6, 7, 9, 10, 11, 12, 18, 19, 20, 21, 22, 23, 24, 25, 26, 27] then (9, a) else (0, 0)
def g0 : Gh := (ow0, fun _ => 0, fun _ => 0, fun _ => 0)
theorem ow0_f : OwF (wO g0) := ⟨by decide +kernel, fun a h1 h2 => if_pos ⟨h1, h2⟩⟩
theorem m0_no {c : Nat} : ¬ mLive m0 c := fun z => by cases z
theorem m0_ok : MOk m0 := ⟨fun t c z => (by cases z), fun c hc => absurd hc (Nat.not_lt_zero c), fun c hc => absurd hc m0_no, fun p c => ⟨fun z => (List.not_mem_nil z).elim, fun z => absurd z.1 m0_no⟩, fun p => List.Pairwise.nil⟩
theorem m0_ct : mCnt m0 = 0 := by decide +kernel
theorem z25_K : ∀ q ∈ cfK, hK z25 q.1 = q.2 := by decide +kernel
theorem z25_R : ∀ q ∈ cfR, hR z25 q.1 q.2.1 = some q.2.2 := by decide +kernel
theorem z25_L : ∀ q ∈ cfL, hL z25 q.1 = q.2 := by decide +kernel
theorem z25_r : hK z25 13 = 7 ∧ (hK z25 14 = 13 ∧ hK z25 15 = 13 ∧ hK z25 16 = 13 ∧ hK z25 17 = 13) ∧ hL z25 14 = 0 ∧ hI z25 452 13 = nI 0 ∧ (hR z25 448 13 = some 14 ∧ hR z25 449 13 = some 15 ∧ hR z25 450 13 = some 16 ∧ hR z25 451 13 = some 17) := by decide +kernel
theorem z25_i : hI z25 513 4 = nI 0 ∧ hI z25 322 6 = nI 0 ∧ hI z25 643 7 = nI 0 ∧ hI z25 640 7 = -1 ∧ hI z25 579 18 = nI 0 ∧ hI z25 193 26 = nI 0 ∧ hI z25 2 10 = nI 0 ∧ hI z25 2 27 = nI 0 := by decide +kernel
theorem z25_p : hR z25 642 7 = none ∧ hR z25 709 3 = none ∧ hR z25 710 3 = some 18 ∧ hR z25 711 3 = some 21 ∧ hR z25 1 10 = some 1 ∧ hR z25 1 27 = some 1 := by decide +kernel
theorem z25_y : ∀ k, k < 8 → hY z25 12 k = some 13 := by decide +kernel
theorem z25_t : ∀ k, k < 24 → hY z25 11 k = none := by decide +kernel
theorem z25_a : ∀ k, k < 250 → hY z25 19 k = none := by decide +kernel
theorem z25_b : ∀ k, k < 250 → hY z25 22 k = none := by decide +kernel
theorem sim0 {h : aH} (r : R0 z25 h) : Sim 0 h := by
  obtain ⟨n63, rf, r29, rX, rI, i2, i3, lw⟩ := r
  have eK : ∀ a, a < 28 → hK h a = hK z25 a := fun a ha => (lw a ha).1
  have eL : ∀ a, a < 28 → hL h a = hL z25 a := fun a ha => (lw a ha).2.1
  have eY : ∀ a, a < 28 → hY h a = hY z25 a := fun a ha => (lw a ha).2.2.2.1
  have eI : ∀ k a, a < 28 → hI h k a = hI z25 k a := fun k a ha => ((lw a ha).2.2.2.2 k).1
  have eR : ∀ k a, a < 28 → hR h k a = hR z25 k a := fun k a ha => ((lw a ha).2.2.2.2 k).2
  have cf : Cf h := ⟨fun q hq => (eR _ _ (by have key : ∀ q ∈ cfR, q.2.1 < 28 := (by decide); exact key q hq)).trans (z25_R q hq), fun q hq => (eK _ (by have key : ∀ q ∈ cfK, q.1 < 28 := (by decide); exact key q hq)).trans (z25_K q hq), fun q hq => (eL _ (by have key : ∀ q ∈ cfL, q.1 < 28 := (by decide); exact key q hq)).trans (z25_L q hq)⟩
  obtain ⟨k13, ⟨k14, k15, k16, k17⟩, l14, i452, p1, p2, p3, p4⟩ := z25_r
  obtain ⟨j1, j2, j3, j4, j5, j6, j7, j8⟩ := z25_i
  obtain ⟨q1, q2, q3, q4, q5, q6⟩ := z25_p
  have al : ∀ a ci tg, a < 28 → hK z25 a = 0 → hI z25 2 a = nI 0 → hR z25 1 a = some 1 → ci ≠ 99 → CLs (wO g0) a [] ci tg h := fun a ci tg ha b1 b2 b3 b4 => ⟨⟨⟨(eK a ha).trans b1, (eI _ a ha).trans b2, by simp, fun x hx => by simp at hx, 1, (eR _ a ha).trans b3, Or.inl ⟨rfl, rfl⟩⟩, fun e he => Or.inl (Option.some.inj (he.symm.trans ((eR _ a ha).trans b3)))⟩, fun e he => Or.inl (Option.some.inj (he.symm.trans ((eR _ a ha).trans b3))), b4⟩
  have o13 : ∀ a ∈ [13, 14, 15, 16, 17], wO g0 a = (0, 0) := by decide +kernel
  refine ⟨g0, [], m0, fun _ => [], (-1, -1), [], [], 0, ⟨⟨by omega, cf, ow0_f⟩, ⟨by simp, (eI _ 4 (by decide)).trans j1, fun k hk => by simp at hk⟩, ⟨fun c hc => absurd hc (Nat.not_lt_zero c), fun t ht => ?_, ?_, ?_, (eI _ 7 (by decide)).trans j3, (eR _ 7 (by decide)).trans q1, (eI _ 7 (by decide)).trans j4⟩, fun k hk => ⟨13, ?_, ⟨(eK 13 (by decide)).trans k13, o13 13 (by decide), by simp, (eI _ 13 (by decide)).trans i452⟩, [], 14, 15, 16, 17, ⟨(eR _ 13 (by decide)).trans p1, (eR _ 13 (by decide)).trans p2, (eR _ 13 (by decide)).trans p3, (eR _ 13 (by decide)).trans p4⟩, ⟨(eK 14 (by decide)).trans k14, (eL 14 (by decide)).trans l14, o13 14 (by decide), fun k hk => by simp at hk⟩, fun q hq => ?_, by simp, fun i it hi => by simp at hi⟩, Or.inl ⟨(eR _ 3 (by decide)).trans q2, rfl⟩, ⟨18, 21, Or.inl ⟨rfl, rfl⟩, (eR _ 3 (by decide)).trans q3, (eR _ 3 (by decide)).trans q4, ⟨fun i q hi hq => ?_, by simp, by simp [flat], (eI _ 18 (by decide)).trans j5, fun i p hp => by simp at hp, fun k hk => by simp [flat] at hk⟩, fun i q hi hq => ?_⟩, ⟨[], al 27 2 (6, 0) (by decide) (z25_K (27, 0) (by decide)) j8 q6 (by decide), rfl, by simp, fun i q hq => by simp at hq, (eI _ 26 (by decide)).trans j6⟩⟩, ⟨rf, ⟨by simp, rI 785 (by decide) (by decide), fun k hk => by simp at hk⟩, ⟨by decide, fun t ht => r29 t ht, fun c hc => absurd hc m0_no, fun p i hi => absurd hi (Nat.not_lt_zero i), ?_, rI 770 (by decide) (by decide)⟩, fun k hk => ⟨by simp, ?_, fun i it hi => by simp at hi⟩, ⟨i2, i3⟩, ⟨by simp, by simp [flat], ?_, fun i p hp => by simp at hp, fun k hk => by simp [flat] at hk⟩, ⟨by simp, rI 813 (by decide) (by decide), rI 818 (by decide) (by decide), by omega, fun i q hq => by simp at hq⟩⟩, m0_ok, ⟨fun p hp => by simp at hp, fun i j p q hi => by simp at hi⟩, by decide, by omega⟩
  · rw [eY 11 (by decide)]; exact z25_t t ht
  · rw [m0_ct]; exact (eI _ 6 (by decide)).trans j2
  · exact al 10 10 (3, 0) (by decide) (z25_K (10, 0) (by decide)) j7 q5 (by decide)
  · rw [eY 12 (by decide)]; exact z25_y k hk
  · have key : ∀ q ∈ [15, 16, 17], q < 28 ∧ hK z25 q = 13 ∧ q ∈ [13, 14, 15, 16, 17] := by decide +kernel
    have kq := key q hq
    exact ⟨(eK q kq.1).trans kq.2.1, o13 q kq.2.2, by simp⟩
  · rw [eY 19 (by decide), z25_a i hi] at hq; cases hq
  · rw [eY 22 (by decide), z25_b i hi] at hq; cases hq
  · rw [m0_ct]; exact rI 768 (by decide) (by decide)
  · rw [rX 36 (by decide) (by decide)]; rfl
  · rw [rX 42 (by decide) (by decide)]; rfl
theorem Sim.up {n : Nat} {h : aH} (s : Sim n h) : Sim (n + 1) h := by
  obtain ⟨g, tp, m, ru, fa, ps, ln, fl, cs, rs, mk, pm, cn, fn⟩ := s
  exact ⟨g, tp, m, ru, fa, ps, ln, fl, cs, rs, mk, pm, by omega, by omega⟩
theorem Sim.k {n : Nat} {h : aH} (s : Sim n h) : hK h 3 = 11 := by
  obtain ⟨g, tp, m, ru, fa, ps, ln, fl, cs, -⟩ := s
  exact ck_3 cs.1.2.1
theorem sub6 {L : Nat} (h : L ≤ 3072) : (nI L - nI 6).toInt = (L : Int) - 6 := by
  rw [Int32.toInt_sub, hi_n (by omega), hi_n (by omega), Int.bmod_def]
  split <;> omega
theorem ev_loop (l : Launch) (G : aG) (hL_ : gL G ≤ 3072) (ms : Nat) : ∀ n, gL G / 6 - n < ms → n ≤ gL G / 6 → ∀ h, Sim n h → Ev l G 22 (750 * (gL G / 6 - n)) (13750 * (gL G / 6 - n)) M_law 18 [.ref 0, .ref 3, .ref 28, .int (nI (6 * n))] [] h (fun v _ => v = some (.int 1)) := by
  induction ms with
  | zero => intro n hn; omega
  | succ ms ih_ =>
    intro n hn1_ hn2_ h S_
    refine Ev_iload_n dL_law_18 rfl ?_
    refine Ev_aload_n dL_law_19 rfl (by first | exact Or.inr ⟨_, rfl⟩ | exact rv_or _ | exact Or.inl rfl) ?_
    refine Ev_slen dL_law_20 ?_
    refine Ev_bipush (v := nI 6) dL_law_21 (by decide) ?_
    refine Ev_isub dL_law_23 ?_
    refine Ev_icmp_gtT 818 dL_law_24 (by decide) (fun zb24_ => ?_) (fun zb24_ => ?_)
    · rw [sub6 hL_, hi_n (by omega)] at zb24_
      refine Ev_iconst (v := nI 1) dL_law_818 (by decide) ?_
      refine Ev_zret dL_law_819 rfl (by decide) ?_
      exact congrArg (fun z => some (Value.int z)) (by decide)
    · rw [sub6 hL_, hi_n (by omega)] at zb24_
      have hn_ : n < 512 := by omega
      refine Ev_aload_n dL_law_27 rfl (by first | exact Or.inr ⟨_, rfl⟩ | exact rv_or _ | exact Or.inl rfl) ?_
      refine Ev_iload_n dL_law_28 rfl ?_
      refine Ev_sld (6 * n) dL_law_29 (hi_n (by omega)) (by omega) ?_
      refine Ev_bipush (v := nI 31) dL_law_30 (by decide) ?_
      refine Ev_iand dL_law_32 ?_
      obtain ⟨w_, hw_⟩ : ∃ w, w = gX G (6 * n) &&& nI 31 := ⟨_, rfl⟩
      rw [← hw_]
      by_cases zs_ : w_.toInt < 0 ∨ 21 < w_.toInt
      · refine Ev_tableOut 812 dL_law_33 zs_ (by decide) ?_
        refine Ev_iincN 6 dL_law_812 (by decide) (by decide) rfl ?_
        refine Ev_goto 18 dL_law_815 (by decide) ?_
        rw [show 6 * n + 6 = 6 * (n + 1) by omega]
        exact Ev.wide (by omega) (by omega) (ih_ (n + 1) (by omega) (by omega) h S_.up)
      · rcases (show w_.toInt = 0 ∨ w_.toInt = 1 ∨ w_.toInt = 2 ∨ w_.toInt = 3 ∨ w_.toInt = 4 ∨ w_.toInt = 5 ∨ w_.toInt = 6 ∨ w_.toInt = 7 ∨ w_.toInt = 8 ∨ w_.toInt = 9 ∨ w_.toInt = 10 ∨ w_.toInt = 11 ∨ w_.toInt = 12 ∨ w_.toInt = 13 ∨ w_.toInt = 14 ∨ w_.toInt = 15 ∨ w_.toInt = 16 ∨ w_.toInt = 17 ∨ w_.toInt = 18 ∨ w_.toInt = 19 ∨ w_.toInt = 20 ∨ w_.toInt = 21 by omega) with zw_ | zw_ | zw_ | zw_ | zw_ | zw_ | zw_ | zw_ | zw_ | zw_ | zw_ | zw_ | zw_ | zw_ | zw_ | zw_ | zw_ | zw_ | zw_ | zw_ | zw_ | zw_
        · refine Ev_tableIn (off := 103) 136 dL_law_33 (by rw [zw_]; decide) (by rw [zw_]; decide) (by rw [zw_]; rfl) (by decide) ?_
          refine Ev_aload_n dL_law_136 rfl (by first | exact Or.inr ⟨_, rfl⟩ | exact rv_or _ | exact Or.inl rfl) ?_
          refine Ev_aload_n dL_law_137 rfl (by first | exact Or.inr ⟨_, rfl⟩ | exact rv_or _ | exact Or.inl rfl) ?_
          refine Ev_iload_n dL_law_138 rfl ?_
          refine Ev_iconst (v := nI 1) dL_law_139 (by decide) ?_
          refine Ev_iaddN dL_law_140 ?_
          refine Ev_sld (6 * n + 1) dL_law_141 (hi_n (by omega)) (by omega) ?_
          refine Ev_aload_n dL_law_142 rfl (by first | exact Or.inr ⟨_, rfl⟩ | exact rv_or _ | exact Or.inl rfl) ?_
          refine Ev_iload_n dL_law_143 rfl ?_
          refine Ev_iconst (v := nI 2) dL_law_144 (by decide) ?_
          refine Ev_iaddN dL_law_145 ?_
          refine Ev_sld (6 * n + 2) dL_law_146 (hi_n (by omega)) (by omega) ?_
          refine Ev_aload_n dL_law_147 rfl (by first | exact Or.inr ⟨_, rfl⟩ | exact rv_or _ | exact Or.inl rfl) ?_
          refine Ev_iload_n dL_law_148 rfl ?_
          refine Ev_iconst (v := nI 3) dL_law_149 (by decide) ?_
          refine Ev_iaddN dL_law_150 ?_
          refine Ev_sld (6 * n + 3) dL_law_151 (hi_n (by omega)) (by omega) ?_
          refine Ev_aload_n dL_law_152 rfl (by first | exact Or.inr ⟨_, rfl⟩ | exact rv_or _ | exact Or.inl rfl) ?_
          refine Ev_iload_n dL_law_153 rfl ?_
          refine Ev_iconst (v := nI 4) dL_law_154 (by decide) ?_
          refine Ev_iaddN dL_law_155 ?_
          refine Ev_sld (6 * n + 4) dL_law_156 (hi_n (by omega)) (by omega) ?_
          refine Ev_aload_n dL_law_157 rfl (by first | exact Or.inr ⟨_, rfl⟩ | exact rv_or _ | exact Or.inl rfl) ?_
          refine Ev_iload_n dL_law_158 rfl ?_
          refine Ev_iconst (v := nI 5) dL_law_159 (by decide) ?_
          refine Ev_iaddN dL_law_160 ?_
          refine Ev_sld (6 * n + 5) dL_law_161 (hi_n (by omega)) (by omega) ?_
          obtain ⟨QC_, ec_, kc_⟩ := pr_feed l G (gX G (6 * n + 1)) (gX G (6 * n + 2)) (gX G (6 * n + 3)) (gX G (6 * n + 4)) (gX G (6 * n + 5)) S_ hn_
          refine Ev_Vg (mc2 := 750 * (gL G / 6 - (n + 1))) (ms2 := 13750 * (gL G / 6 - (n + 1))) [.int (gX G (6 * n + 1)), .int (gX G (6 * n + 2)), .int (gX G (6 * n + 3)), .int (gX G (6 * n + 4)), .int (gX G (6 * n + 5))] dL_law_162 vX10_feed kL_13 S_.k rfl rfl rfl (Nat.le_of_ble_eq_true rfl) (by omega) (by omega) (by omega) (ec_) (fun v_ h1 e_ => ?_)
          obtain ⟨x_, QR_, rfl, k28_, er_, kr_⟩ := kc_ v_ h1 e_
          refine Ev_aload_n dL_law_165 rfl (by first | exact Or.inr ⟨_, rfl⟩ | exact rv_or _ | exact Or.inl rfl) ?_
          refine Ev_aload_n dL_law_166 rfl (by first | exact Or.inr ⟨_, rfl⟩ | exact rv_or _ | exact Or.inl rfl) ?_
          refine Ev_iload_n dL_law_167 rfl ?_
          refine Ev_iconst (v := nI 1) dL_law_168 (by decide) ?_
          refine Ev_iaddN dL_law_169 ?_
          refine Ev_sld (6 * n + 1) dL_law_170 (hi_n (by omega)) (by omega) ?_
          refine Ev_aload_n dL_law_171 rfl (by first | exact Or.inr ⟨_, rfl⟩ | exact rv_or _ | exact Or.inl rfl) ?_
          refine Ev_iload_n dL_law_172 rfl ?_
          refine Ev_iconst (v := nI 2) dL_law_173 (by decide) ?_
          refine Ev_iaddN dL_law_174 ?_
          refine Ev_sld (6 * n + 2) dL_law_175 (hi_n (by omega)) (by omega) ?_
          refine Ev_aload_n dL_law_176 rfl (by first | exact Or.inr ⟨_, rfl⟩ | exact rv_or _ | exact Or.inl rfl) ?_
          refine Ev_iload_n dL_law_177 rfl ?_
          refine Ev_iconst (v := nI 3) dL_law_178 (by decide) ?_
          refine Ev_iaddN dL_law_179 ?_
          refine Ev_sld (6 * n + 3) dL_law_180 (hi_n (by omega)) (by omega) ?_
          refine Ev_aload_n dL_law_181 rfl (by first | exact Or.inr ⟨_, rfl⟩ | exact rv_or _ | exact Or.inl rfl) ?_
          refine Ev_iload_n dL_law_182 rfl ?_
          refine Ev_iconst (v := nI 4) dL_law_183 (by decide) ?_
          refine Ev_iaddN dL_law_184 ?_
          refine Ev_sld (6 * n + 4) dL_law_185 (hi_n (by omega)) (by omega) ?_
          refine Ev_aload_n dL_law_186 rfl (by first | exact Or.inr ⟨_, rfl⟩ | exact rv_or _ | exact Or.inl rfl) ?_
          refine Ev_iload_n dL_law_187 rfl ?_
          refine Ev_iconst (v := nI 5) dL_law_188 (by decide) ?_
          refine Ev_iaddN dL_law_189 ?_
          refine Ev_sld (6 * n + 5) dL_law_190 (hi_n (by omega)) (by omega) ?_
          refine Ev_Vz [.int (gX G (6 * n + 1)), .int (gX G (6 * n + 2)), .int (gX G (6 * n + 3)), .int (gX G (6 * n + 4)), .int (gX G (6 * n + 5))] dL_law_191 vX11_feed kL_17 k28_ rfl rfl rfl (Nat.le_of_ble_eq_true rfl) (by omega) (er_) (fun v2_ h2 e2_ => ?_)
          obtain ⟨rfl, S2_⟩ := kr_ v2_ h2 e2_
          refine Ev_icmp_eqT 812 dL_law_194 (by decide) (fun zb194_ => ?_) (fun zb194_ => ?_)
          · refine Ev_iincN 6 dL_law_812 (by decide) (by decide) rfl ?_
            refine Ev_goto 18 dL_law_815 (by decide) ?_
            rw [show 6 * n + 6 = 6 * (n + 1) by omega]
            exact ih_ (n + 1) (by omega) (by omega) h2 S2_
          · exact absurd rfl zb194_
        · refine Ev_tableIn (off := 166) 199 dL_law_33 (by rw [zw_]; decide) (by rw [zw_]; decide) (by rw [zw_]; rfl) (by decide) ?_
          refine Ev_aload_n dL_law_199 rfl (by first | exact Or.inr ⟨_, rfl⟩ | exact rv_or _ | exact Or.inl rfl) ?_
          refine Ev_aload_n dL_law_200 rfl (by first | exact Or.inr ⟨_, rfl⟩ | exact rv_or _ | exact Or.inl rfl) ?_
          refine Ev_iload_n dL_law_201 rfl ?_
          refine Ev_iconst (v := nI 1) dL_law_202 (by decide) ?_
          refine Ev_iaddN dL_law_203 ?_
          refine Ev_sld (6 * n + 1) dL_law_204 (hi_n (by omega)) (by omega) ?_
          obtain ⟨QC_, ec_, kc_⟩ := pr_end l G (gX G (6 * n + 1)) S_ hn_
          refine Ev_Vg (mc2 := 750 * (gL G / 6 - (n + 1))) (ms2 := 13750 * (gL G / 6 - (n + 1))) [.int (gX G (6 * n + 1))] dL_law_205 vX10_end kL_18 S_.k rfl rfl rfl (Nat.le_of_ble_eq_true rfl) (by omega) (by omega) (by omega) (ec_) (fun v_ h1 e_ => ?_)
          obtain ⟨x_, QR_, rfl, k28_, er_, kr_⟩ := kc_ v_ h1 e_
          refine Ev_aload_n dL_law_208 rfl (by first | exact Or.inr ⟨_, rfl⟩ | exact rv_or _ | exact Or.inl rfl) ?_
          refine Ev_aload_n dL_law_209 rfl (by first | exact Or.inr ⟨_, rfl⟩ | exact rv_or _ | exact Or.inl rfl) ?_
          refine Ev_iload_n dL_law_210 rfl ?_
          refine Ev_iconst (v := nI 1) dL_law_211 (by decide) ?_
          refine Ev_iaddN dL_law_212 ?_
          refine Ev_sld (6 * n + 1) dL_law_213 (hi_n (by omega)) (by omega) ?_
          refine Ev_Vz [.int (gX G (6 * n + 1))] dL_law_214 vX11_end kL_22 k28_ rfl rfl rfl (Nat.le_of_ble_eq_true rfl) (by omega) (er_) (fun v2_ h2 e2_ => ?_)
          obtain ⟨rfl, S2_⟩ := kr_ v2_ h2 e2_
          refine Ev_icmp_eqT 812 dL_law_217 (by decide) (fun zb217_ => ?_) (fun zb217_ => ?_)
          · refine Ev_iincN 6 dL_law_812 (by decide) (by decide) rfl ?_
            refine Ev_goto 18 dL_law_815 (by decide) ?_
            rw [show 6 * n + 6 = 6 * (n + 1) by omega]
            exact ih_ (n + 1) (by omega) (by omega) h2 S2_
          · exact absurd rfl zb217_
        · refine Ev_tableIn (off := 189) 222 dL_law_33 (by rw [zw_]; decide) (by rw [zw_]; decide) (by rw [zw_]; rfl) (by decide) ?_
          refine Ev_aload_n dL_law_222 rfl (by first | exact Or.inr ⟨_, rfl⟩ | exact rv_or _ | exact Or.inl rfl) ?_
          refine Ev_aload_n dL_law_223 rfl (by first | exact Or.inr ⟨_, rfl⟩ | exact rv_or _ | exact Or.inl rfl) ?_
          refine Ev_iload_n dL_law_224 rfl ?_
          refine Ev_iconst (v := nI 1) dL_law_225 (by decide) ?_
          refine Ev_iaddN dL_law_226 ?_
          refine Ev_sld (6 * n + 1) dL_law_227 (hi_n (by omega)) (by omega) ?_
          refine Ev_aload_n dL_law_228 rfl (by first | exact Or.inr ⟨_, rfl⟩ | exact rv_or _ | exact Or.inl rfl) ?_
          refine Ev_iload_n dL_law_229 rfl ?_
          refine Ev_iconst (v := nI 2) dL_law_230 (by decide) ?_
          refine Ev_iaddN dL_law_231 ?_
          refine Ev_sld (6 * n + 2) dL_law_232 (hi_n (by omega)) (by omega) ?_
          obtain ⟨QC_, ec_, kc_⟩ := pr_thing l G (gX G (6 * n + 1)) (gX G (6 * n + 2)) S_ hn_
          refine Ev_Vg (mc2 := 750 * (gL G / 6 - (n + 1))) (ms2 := 13750 * (gL G / 6 - (n + 1))) [.int (gX G (6 * n + 1)), .int (gX G (6 * n + 2))] dL_law_233 vX10_thing kL_23 S_.k rfl rfl rfl (Nat.le_of_ble_eq_true rfl) (by omega) (by omega) (by omega) (ec_) (fun v_ h1 e_ => ?_)
          obtain ⟨x_, QR_, rfl, k28_, er_, kr_⟩ := kc_ v_ h1 e_
          refine Ev_aload_n dL_law_236 rfl (by first | exact Or.inr ⟨_, rfl⟩ | exact rv_or _ | exact Or.inl rfl) ?_
          refine Ev_aload_n dL_law_237 rfl (by first | exact Or.inr ⟨_, rfl⟩ | exact rv_or _ | exact Or.inl rfl) ?_
          refine Ev_iload_n dL_law_238 rfl ?_
          refine Ev_iconst (v := nI 1) dL_law_239 (by decide) ?_
          refine Ev_iaddN dL_law_240 ?_
          refine Ev_sld (6 * n + 1) dL_law_241 (hi_n (by omega)) (by omega) ?_
          refine Ev_aload_n dL_law_242 rfl (by first | exact Or.inr ⟨_, rfl⟩ | exact rv_or _ | exact Or.inl rfl) ?_
          refine Ev_iload_n dL_law_243 rfl ?_
          refine Ev_iconst (v := nI 2) dL_law_244 (by decide) ?_
          refine Ev_iaddN dL_law_245 ?_
          refine Ev_sld (6 * n + 2) dL_law_246 (hi_n (by omega)) (by omega) ?_
          refine Ev_Vz [.int (gX G (6 * n + 1)), .int (gX G (6 * n + 2))] dL_law_247 vX11_thing kL_27 k28_ rfl rfl rfl (Nat.le_of_ble_eq_true rfl) (by omega) (er_) (fun v2_ h2 e2_ => ?_)
          obtain ⟨rfl, S2_⟩ := kr_ v2_ h2 e2_
          refine Ev_icmp_eqT 812 dL_law_250 (by decide) (fun zb250_ => ?_) (fun zb250_ => ?_)
          · refine Ev_iincN 6 dL_law_812 (by decide) (by decide) rfl ?_
            refine Ev_goto 18 dL_law_815 (by decide) ?_
            rw [show 6 * n + 6 = 6 * (n + 1) by omega]
            exact ih_ (n + 1) (by omega) (by omega) h2 S2_
          · exact absurd rfl zb250_
        · refine Ev_tableIn (off := 222) 255 dL_law_33 (by rw [zw_]; decide) (by rw [zw_]; decide) (by rw [zw_]; rfl) (by decide) ?_
          refine Ev_aload_n dL_law_255 rfl (by first | exact Or.inr ⟨_, rfl⟩ | exact rv_or _ | exact Or.inl rfl) ?_
          refine Ev_aload_n dL_law_256 rfl (by first | exact Or.inr ⟨_, rfl⟩ | exact rv_or _ | exact Or.inl rfl) ?_
          refine Ev_iload_n dL_law_257 rfl ?_
          refine Ev_iconst (v := nI 1) dL_law_258 (by decide) ?_
          refine Ev_iaddN dL_law_259 ?_
          refine Ev_sld (6 * n + 1) dL_law_260 (hi_n (by omega)) (by omega) ?_
          refine Ev_aload_n dL_law_261 rfl (by first | exact Or.inr ⟨_, rfl⟩ | exact rv_or _ | exact Or.inl rfl) ?_
          refine Ev_iload_n dL_law_262 rfl ?_
          refine Ev_iconst (v := nI 2) dL_law_263 (by decide) ?_
          refine Ev_iaddN dL_law_264 ?_
          refine Ev_sld (6 * n + 2) dL_law_265 (hi_n (by omega)) (by omega) ?_
          refine Ev_aload_n dL_law_266 rfl (by first | exact Or.inr ⟨_, rfl⟩ | exact rv_or _ | exact Or.inl rfl) ?_
          refine Ev_iload_n dL_law_267 rfl ?_
          refine Ev_iconst (v := nI 3) dL_law_268 (by decide) ?_
          refine Ev_iaddN dL_law_269 ?_
          refine Ev_sld (6 * n + 3) dL_law_270 (hi_n (by omega)) (by omega) ?_
          obtain ⟨QC_, ec_, kc_⟩ := pr_number l G (gX G (6 * n + 1)) (gX G (6 * n + 2)) (gX G (6 * n + 3)) S_ hn_
          refine Ev_Vg (mc2 := 750 * (gL G / 6 - (n + 1))) (ms2 := 13750 * (gL G / 6 - (n + 1))) [.int (gX G (6 * n + 1)), .int (gX G (6 * n + 2)), .int (gX G (6 * n + 3))] dL_law_271 vX10_number kL_28 S_.k rfl rfl rfl (Nat.le_of_ble_eq_true rfl) (by omega) (by omega) (by omega) (ec_) (fun v_ h1 e_ => ?_)
          obtain ⟨x_, QR_, rfl, k28_, er_, kr_⟩ := kc_ v_ h1 e_
          refine Ev_aload_n dL_law_274 rfl (by first | exact Or.inr ⟨_, rfl⟩ | exact rv_or _ | exact Or.inl rfl) ?_
          refine Ev_aload_n dL_law_275 rfl (by first | exact Or.inr ⟨_, rfl⟩ | exact rv_or _ | exact Or.inl rfl) ?_
          refine Ev_iload_n dL_law_276 rfl ?_
          refine Ev_iconst (v := nI 1) dL_law_277 (by decide) ?_
          refine Ev_iaddN dL_law_278 ?_
          refine Ev_sld (6 * n + 1) dL_law_279 (hi_n (by omega)) (by omega) ?_
          refine Ev_aload_n dL_law_280 rfl (by first | exact Or.inr ⟨_, rfl⟩ | exact rv_or _ | exact Or.inl rfl) ?_
          refine Ev_iload_n dL_law_281 rfl ?_
          refine Ev_iconst (v := nI 2) dL_law_282 (by decide) ?_
          refine Ev_iaddN dL_law_283 ?_
          refine Ev_sld (6 * n + 2) dL_law_284 (hi_n (by omega)) (by omega) ?_
          refine Ev_aload_n dL_law_285 rfl (by first | exact Or.inr ⟨_, rfl⟩ | exact rv_or _ | exact Or.inl rfl) ?_
          refine Ev_iload_n dL_law_286 rfl ?_
          refine Ev_iconst (v := nI 3) dL_law_287 (by decide) ?_
          refine Ev_iaddN dL_law_288 ?_
          refine Ev_sld (6 * n + 3) dL_law_289 (hi_n (by omega)) (by omega) ?_
          refine Ev_Vz [.int (gX G (6 * n + 1)), .int (gX G (6 * n + 2)), .int (gX G (6 * n + 3))] dL_law_290 vX11_number kL_32 k28_ rfl rfl rfl (Nat.le_of_ble_eq_true rfl) (by omega) (er_) (fun v2_ h2 e2_ => ?_)
          obtain ⟨rfl, S2_⟩ := kr_ v2_ h2 e2_
          refine Ev_icmp_eqT 812 dL_law_293 (by decide) (fun zb293_ => ?_) (fun zb293_ => ?_)
          · refine Ev_iincN 6 dL_law_812 (by decide) (by decide) rfl ?_
            refine Ev_goto 18 dL_law_815 (by decide) ?_
            rw [show 6 * n + 6 = 6 * (n + 1) by omega]
            exact ih_ (n + 1) (by omega) (by omega) h2 S2_
          · exact absurd rfl zb293_
        · refine Ev_tableIn (off := 265) 298 dL_law_33 (by rw [zw_]; decide) (by rw [zw_]; decide) (by rw [zw_]; rfl) (by decide) ?_
          refine Ev_aload_n dL_law_298 rfl (by first | exact Or.inr ⟨_, rfl⟩ | exact rv_or _ | exact Or.inl rfl) ?_
          refine Ev_aload_n dL_law_299 rfl (by first | exact Or.inr ⟨_, rfl⟩ | exact rv_or _ | exact Or.inl rfl) ?_
          refine Ev_iload_n dL_law_300 rfl ?_
          refine Ev_iconst (v := nI 1) dL_law_301 (by decide) ?_
          refine Ev_iaddN dL_law_302 ?_
          refine Ev_sld (6 * n + 1) dL_law_303 (hi_n (by omega)) (by omega) ?_
          obtain ⟨QC_, ec_, kc_⟩ := pr_name l G (gX G (6 * n + 1)) S_ hn_
          refine Ev_Vg (mc2 := 750 * (gL G / 6 - (n + 1))) (ms2 := 13750 * (gL G / 6 - (n + 1))) [.int (gX G (6 * n + 1))] dL_law_304 vX10_name kL_33 S_.k rfl rfl rfl (Nat.le_of_ble_eq_true rfl) (by omega) (by omega) (by omega) (ec_) (fun v_ h1 e_ => ?_)
          obtain ⟨x_, QR_, rfl, k28_, er_, kr_⟩ := kc_ v_ h1 e_
          refine Ev_aload_n dL_law_307 rfl (by first | exact Or.inr ⟨_, rfl⟩ | exact rv_or _ | exact Or.inl rfl) ?_
          refine Ev_aload_n dL_law_308 rfl (by first | exact Or.inr ⟨_, rfl⟩ | exact rv_or _ | exact Or.inl rfl) ?_
          refine Ev_iload_n dL_law_309 rfl ?_
          refine Ev_iconst (v := nI 1) dL_law_310 (by decide) ?_
          refine Ev_iaddN dL_law_311 ?_
          refine Ev_sld (6 * n + 1) dL_law_312 (hi_n (by omega)) (by omega) ?_
          refine Ev_Vz [.int (gX G (6 * n + 1))] dL_law_313 vX11_name kL_37 k28_ rfl rfl rfl (Nat.le_of_ble_eq_true rfl) (by omega) (er_) (fun v2_ h2 e2_ => ?_)
          obtain ⟨rfl, S2_⟩ := kr_ v2_ h2 e2_
          refine Ev_icmp_eqT 812 dL_law_316 (by decide) (fun zb316_ => ?_) (fun zb316_ => ?_)
          · refine Ev_iincN 6 dL_law_812 (by decide) (by decide) rfl ?_
            refine Ev_goto 18 dL_law_815 (by decide) ?_
            rw [show 6 * n + 6 = 6 * (n + 1) by omega]
            exact ih_ (n + 1) (by omega) (by omega) h2 S2_
          · exact absurd rfl zb316_
        · refine Ev_tableIn (off := 288) 321 dL_law_33 (by rw [zw_]; decide) (by rw [zw_]; decide) (by rw [zw_]; rfl) (by decide) ?_
          refine Ev_aload_n dL_law_321 rfl (by first | exact Or.inr ⟨_, rfl⟩ | exact rv_or _ | exact Or.inl rfl) ?_
          refine Ev_aload_n dL_law_322 rfl (by first | exact Or.inr ⟨_, rfl⟩ | exact rv_or _ | exact Or.inl rfl) ?_
          refine Ev_iload_n dL_law_323 rfl ?_
          refine Ev_iconst (v := nI 1) dL_law_324 (by decide) ?_
          refine Ev_iaddN dL_law_325 ?_
          refine Ev_sld (6 * n + 1) dL_law_326 (hi_n (by omega)) (by omega) ?_
          refine Ev_aload_n dL_law_327 rfl (by first | exact Or.inr ⟨_, rfl⟩ | exact rv_or _ | exact Or.inl rfl) ?_
          refine Ev_iload_n dL_law_328 rfl ?_
          refine Ev_iconst (v := nI 2) dL_law_329 (by decide) ?_
          refine Ev_iaddN dL_law_330 ?_
          refine Ev_sld (6 * n + 2) dL_law_331 (hi_n (by omega)) (by omega) ?_
          obtain ⟨QC_, ec_, kc_⟩ := pr_move l G (gX G (6 * n + 1)) (gX G (6 * n + 2)) S_ hn_
          refine Ev_Vg (mc2 := 750 * (gL G / 6 - (n + 1))) (ms2 := 13750 * (gL G / 6 - (n + 1))) [.int (gX G (6 * n + 1)), .int (gX G (6 * n + 2))] dL_law_332 vX10_move kL_38 S_.k rfl rfl rfl (Nat.le_of_ble_eq_true rfl) (by omega) (by omega) (by omega) (ec_) (fun v_ h1 e_ => ?_)
          obtain ⟨x_, QR_, rfl, k28_, er_, kr_⟩ := kc_ v_ h1 e_
          refine Ev_aload_n dL_law_335 rfl (by first | exact Or.inr ⟨_, rfl⟩ | exact rv_or _ | exact Or.inl rfl) ?_
          refine Ev_aload_n dL_law_336 rfl (by first | exact Or.inr ⟨_, rfl⟩ | exact rv_or _ | exact Or.inl rfl) ?_
          refine Ev_iload_n dL_law_337 rfl ?_
          refine Ev_iconst (v := nI 1) dL_law_338 (by decide) ?_
          refine Ev_iaddN dL_law_339 ?_
          refine Ev_sld (6 * n + 1) dL_law_340 (hi_n (by omega)) (by omega) ?_
          refine Ev_aload_n dL_law_341 rfl (by first | exact Or.inr ⟨_, rfl⟩ | exact rv_or _ | exact Or.inl rfl) ?_
          refine Ev_iload_n dL_law_342 rfl ?_
          refine Ev_iconst (v := nI 2) dL_law_343 (by decide) ?_
          refine Ev_iaddN dL_law_344 ?_
          refine Ev_sld (6 * n + 2) dL_law_345 (hi_n (by omega)) (by omega) ?_
          refine Ev_Vz [.int (gX G (6 * n + 1)), .int (gX G (6 * n + 2))] dL_law_346 vX11_move kL_42 k28_ rfl rfl rfl (Nat.le_of_ble_eq_true rfl) (by omega) (er_) (fun v2_ h2 e2_ => ?_)
          obtain ⟨rfl, S2_⟩ := kr_ v2_ h2 e2_
          refine Ev_icmp_eqT 812 dL_law_349 (by decide) (fun zb349_ => ?_) (fun zb349_ => ?_)
          · refine Ev_iincN 6 dL_law_812 (by decide) (by decide) rfl ?_
            refine Ev_goto 18 dL_law_815 (by decide) ?_
            rw [show 6 * n + 6 = 6 * (n + 1) by omega]
            exact ih_ (n + 1) (by omega) (by omega) h2 S2_
          · exact absurd rfl zb349_
        · refine Ev_tableIn (off := 321) 354 dL_law_33 (by rw [zw_]; decide) (by rw [zw_]; decide) (by rw [zw_]; rfl) (by decide) ?_
          refine Ev_aload_n dL_law_354 rfl (by first | exact Or.inr ⟨_, rfl⟩ | exact rv_or _ | exact Or.inl rfl) ?_
          refine Ev_aload_n dL_law_355 rfl (by first | exact Or.inr ⟨_, rfl⟩ | exact rv_or _ | exact Or.inl rfl) ?_
          refine Ev_iload_n dL_law_356 rfl ?_
          refine Ev_iconst (v := nI 1) dL_law_357 (by decide) ?_
          refine Ev_iaddN dL_law_358 ?_
          refine Ev_sld (6 * n + 1) dL_law_359 (hi_n (by omega)) (by omega) ?_
          obtain ⟨QC_, ec_, kc_⟩ := pr_drop l G (gX G (6 * n + 1)) S_ hn_
          refine Ev_Vg (mc2 := 750 * (gL G / 6 - (n + 1))) (ms2 := 13750 * (gL G / 6 - (n + 1))) [.int (gX G (6 * n + 1))] dL_law_360 vX10_drop kL_43 S_.k rfl rfl rfl (Nat.le_of_ble_eq_true rfl) (by omega) (by omega) (by omega) (ec_) (fun v_ h1 e_ => ?_)
          obtain ⟨x_, QR_, rfl, k28_, er_, kr_⟩ := kc_ v_ h1 e_
          refine Ev_aload_n dL_law_363 rfl (by first | exact Or.inr ⟨_, rfl⟩ | exact rv_or _ | exact Or.inl rfl) ?_
          refine Ev_aload_n dL_law_364 rfl (by first | exact Or.inr ⟨_, rfl⟩ | exact rv_or _ | exact Or.inl rfl) ?_
          refine Ev_iload_n dL_law_365 rfl ?_
          refine Ev_iconst (v := nI 1) dL_law_366 (by decide) ?_
          refine Ev_iaddN dL_law_367 ?_
          refine Ev_sld (6 * n + 1) dL_law_368 (hi_n (by omega)) (by omega) ?_
          refine Ev_Vz [.int (gX G (6 * n + 1))] dL_law_369 vX11_drop kL_46 k28_ rfl rfl rfl (Nat.le_of_ble_eq_true rfl) (by omega) (er_) (fun v2_ h2 e2_ => ?_)
          obtain ⟨rfl, S2_⟩ := kr_ v2_ h2 e2_
          refine Ev_icmp_eqT 812 dL_law_372 (by decide) (fun zb372_ => ?_) (fun zb372_ => ?_)
          · refine Ev_iincN 6 dL_law_812 (by decide) (by decide) rfl ?_
            refine Ev_goto 18 dL_law_815 (by decide) ?_
            rw [show 6 * n + 6 = 6 * (n + 1) by omega]
            exact ih_ (n + 1) (by omega) (by omega) h2 S2_
          · exact absurd rfl zb372_
        · refine Ev_tableIn (off := 344) 377 dL_law_33 (by rw [zw_]; decide) (by rw [zw_]; decide) (by rw [zw_]; rfl) (by decide) ?_
          refine Ev_aload_n dL_law_377 rfl (by first | exact Or.inr ⟨_, rfl⟩ | exact rv_or _ | exact Or.inl rfl) ?_
          refine Ev_aload_n dL_law_378 rfl (by first | exact Or.inr ⟨_, rfl⟩ | exact rv_or _ | exact Or.inl rfl) ?_
          refine Ev_iload_n dL_law_379 rfl ?_
          refine Ev_iconst (v := nI 1) dL_law_380 (by decide) ?_
          refine Ev_iaddN dL_law_381 ?_
          refine Ev_sld (6 * n + 1) dL_law_382 (hi_n (by omega)) (by omega) ?_
          obtain ⟨QC_, ec_, kc_⟩ := pr_rule l G (gX G (6 * n + 1)) S_ hn_
          refine Ev_Vg (mc2 := 750 * (gL G / 6 - (n + 1))) (ms2 := 13750 * (gL G / 6 - (n + 1))) [.int (gX G (6 * n + 1))] dL_law_383 vX10_rule kL_47 S_.k rfl rfl rfl (Nat.le_of_ble_eq_true rfl) (by omega) (by omega) (by omega) (ec_) (fun v_ h1 e_ => ?_)
          obtain ⟨x_, QR_, rfl, k28_, er_, kr_⟩ := kc_ v_ h1 e_
          refine Ev_aload_n dL_law_386 rfl (by first | exact Or.inr ⟨_, rfl⟩ | exact rv_or _ | exact Or.inl rfl) ?_
          refine Ev_aload_n dL_law_387 rfl (by first | exact Or.inr ⟨_, rfl⟩ | exact rv_or _ | exact Or.inl rfl) ?_
          refine Ev_iload_n dL_law_388 rfl ?_
          refine Ev_iconst (v := nI 1) dL_law_389 (by decide) ?_
          refine Ev_iaddN dL_law_390 ?_
          refine Ev_sld (6 * n + 1) dL_law_391 (hi_n (by omega)) (by omega) ?_
          refine Ev_Vz [.int (gX G (6 * n + 1))] dL_law_392 vX11_rule kL_50 k28_ rfl rfl rfl (Nat.le_of_ble_eq_true rfl) (by omega) (er_) (fun v2_ h2 e2_ => ?_)
          obtain ⟨rfl, S2_⟩ := kr_ v2_ h2 e2_
          refine Ev_icmp_eqT 812 dL_law_395 (by decide) (fun zb395_ => ?_) (fun zb395_ => ?_)
          · refine Ev_iincN 6 dL_law_812 (by decide) (by decide) rfl ?_
            refine Ev_goto 18 dL_law_815 (by decide) ?_
            rw [show 6 * n + 6 = 6 * (n + 1) by omega]
            exact ih_ (n + 1) (by omega) (by omega) h2 S2_
          · exact absurd rfl zb395_
        · refine Ev_tableIn (off := 367) 400 dL_law_33 (by rw [zw_]; decide) (by rw [zw_]; decide) (by rw [zw_]; rfl) (by decide) ?_
          refine Ev_aload_n dL_law_400 rfl (by first | exact Or.inr ⟨_, rfl⟩ | exact rv_or _ | exact Or.inl rfl) ?_
          refine Ev_aload_n dL_law_401 rfl (by first | exact Or.inr ⟨_, rfl⟩ | exact rv_or _ | exact Or.inl rfl) ?_
          refine Ev_iload_n dL_law_402 rfl ?_
          refine Ev_iconst (v := nI 1) dL_law_403 (by decide) ?_
          refine Ev_iaddN dL_law_404 ?_
          refine Ev_sld (6 * n + 1) dL_law_405 (hi_n (by omega)) (by omega) ?_
          obtain ⟨QC_, ec_, kc_⟩ := pr_fault l G (gX G (6 * n + 1)) S_ hn_
          refine Ev_Vg (mc2 := 750 * (gL G / 6 - (n + 1))) (ms2 := 13750 * (gL G / 6 - (n + 1))) [.int (gX G (6 * n + 1))] dL_law_406 vX10_fault kL_51 S_.k rfl rfl rfl (Nat.le_of_ble_eq_true rfl) (by omega) (by omega) (by omega) (ec_) (fun v_ h1 e_ => ?_)
          obtain ⟨x_, QR_, rfl, k28_, er_, kr_⟩ := kc_ v_ h1 e_
          refine Ev_aload_n dL_law_409 rfl (by first | exact Or.inr ⟨_, rfl⟩ | exact rv_or _ | exact Or.inl rfl) ?_
          refine Ev_aload_n dL_law_410 rfl (by first | exact Or.inr ⟨_, rfl⟩ | exact rv_or _ | exact Or.inl rfl) ?_
          refine Ev_iload_n dL_law_411 rfl ?_
          refine Ev_iconst (v := nI 1) dL_law_412 (by decide) ?_
          refine Ev_iaddN dL_law_413 ?_
          refine Ev_sld (6 * n + 1) dL_law_414 (hi_n (by omega)) (by omega) ?_
          refine Ev_Vz [.int (gX G (6 * n + 1))] dL_law_415 vX11_fault kL_54 k28_ rfl rfl rfl (Nat.le_of_ble_eq_true rfl) (by omega) (er_) (fun v2_ h2 e2_ => ?_)
          obtain ⟨rfl, S2_⟩ := kr_ v2_ h2 e2_
          refine Ev_icmp_eqT 812 dL_law_418 (by decide) (fun zb418_ => ?_) (fun zb418_ => ?_)
          · refine Ev_iincN 6 dL_law_812 (by decide) (by decide) rfl ?_
            refine Ev_goto 18 dL_law_815 (by decide) ?_
            rw [show 6 * n + 6 = 6 * (n + 1) by omega]
            exact ih_ (n + 1) (by omega) (by omega) h2 S2_
          · exact absurd rfl zb418_
        · refine Ev_tableIn (off := 390) 423 dL_law_33 (by rw [zw_]; decide) (by rw [zw_]; decide) (by rw [zw_]; rfl) (by decide) ?_
          refine Ev_aload_n dL_law_423 rfl (by first | exact Or.inr ⟨_, rfl⟩ | exact rv_or _ | exact Or.inl rfl) ?_
          obtain ⟨QC_, ec_, kc_⟩ := pr_make l G S_ hn_
          refine Ev_Vg (mc2 := 750 * (gL G / 6 - (n + 1))) (ms2 := 13750 * (gL G / 6 - (n + 1))) [] dL_law_424 vX10_make kL_55 S_.k rfl rfl rfl (Nat.le_of_ble_eq_true rfl) (by omega) (by omega) (by omega) (ec_) (fun v_ h1 e_ => ?_)
          obtain ⟨x_, QR_, rfl, k28_, er_, kr_⟩ := kc_ v_ h1 e_
          refine Ev_aload_n dL_law_427 rfl (by first | exact Or.inr ⟨_, rfl⟩ | exact rv_or _ | exact Or.inl rfl) ?_
          refine Ev_Vz [] dL_law_428 vX11_make kL_59 k28_ rfl rfl rfl (Nat.le_of_ble_eq_true rfl) (by omega) (er_) (fun v2_ h2 e2_ => ?_)
          obtain ⟨rfl, S2_⟩ := kr_ v2_ h2 e2_
          refine Ev_icmp_eqT 812 dL_law_431 (by decide) (fun zb431_ => ?_) (fun zb431_ => ?_)
          · refine Ev_iincN 6 dL_law_812 (by decide) (by decide) rfl ?_
            refine Ev_goto 18 dL_law_815 (by decide) ?_
            rw [show 6 * n + 6 = 6 * (n + 1) by omega]
            exact ih_ (n + 1) (by omega) (by omega) h2 S2_
          · exact absurd rfl zb431_
        · refine Ev_tableIn (off := 403) 436 dL_law_33 (by rw [zw_]; decide) (by rw [zw_]; decide) (by rw [zw_]; rfl) (by decide) ?_
          refine Ev_aload_n dL_law_436 rfl (by first | exact Or.inr ⟨_, rfl⟩ | exact rv_or _ | exact Or.inl rfl) ?_
          refine Ev_aload_n dL_law_437 rfl (by first | exact Or.inr ⟨_, rfl⟩ | exact rv_or _ | exact Or.inl rfl) ?_
          refine Ev_iload_n dL_law_438 rfl ?_
          refine Ev_iconst (v := nI 1) dL_law_439 (by decide) ?_
          refine Ev_iaddN dL_law_440 ?_
          refine Ev_sld (6 * n + 1) dL_law_441 (hi_n (by omega)) (by omega) ?_
          refine Ev_aload_n dL_law_442 rfl (by first | exact Or.inr ⟨_, rfl⟩ | exact rv_or _ | exact Or.inl rfl) ?_
          refine Ev_iload_n dL_law_443 rfl ?_
          refine Ev_iconst (v := nI 2) dL_law_444 (by decide) ?_
          refine Ev_iaddN dL_law_445 ?_
          refine Ev_sld (6 * n + 2) dL_law_446 (hi_n (by omega)) (by omega) ?_
          obtain ⟨QC_, ec_, kc_⟩ := pr_piece l G (gX G (6 * n + 1)) (gX G (6 * n + 2)) S_ hn_
          refine Ev_Vg (mc2 := 750 * (gL G / 6 - (n + 1))) (ms2 := 13750 * (gL G / 6 - (n + 1))) [.int (gX G (6 * n + 1)), .int (gX G (6 * n + 2))] dL_law_447 vX10_piece kL_60 S_.k rfl rfl rfl (Nat.le_of_ble_eq_true rfl) (by omega) (by omega) (by omega) (ec_) (fun v_ h1 e_ => ?_)
          obtain ⟨x_, QR_, rfl, k28_, er_, kr_⟩ := kc_ v_ h1 e_
          refine Ev_aload_n dL_law_450 rfl (by first | exact Or.inr ⟨_, rfl⟩ | exact rv_or _ | exact Or.inl rfl) ?_
          refine Ev_aload_n dL_law_451 rfl (by first | exact Or.inr ⟨_, rfl⟩ | exact rv_or _ | exact Or.inl rfl) ?_
          refine Ev_iload_n dL_law_452 rfl ?_
          refine Ev_iconst (v := nI 1) dL_law_453 (by decide) ?_
          refine Ev_iaddN dL_law_454 ?_
          refine Ev_sld (6 * n + 1) dL_law_455 (hi_n (by omega)) (by omega) ?_
          refine Ev_aload_n dL_law_456 rfl (by first | exact Or.inr ⟨_, rfl⟩ | exact rv_or _ | exact Or.inl rfl) ?_
          refine Ev_iload_n dL_law_457 rfl ?_
          refine Ev_iconst (v := nI 2) dL_law_458 (by decide) ?_
          refine Ev_iaddN dL_law_459 ?_
          refine Ev_sld (6 * n + 2) dL_law_460 (hi_n (by omega)) (by omega) ?_
          refine Ev_Vz [.int (gX G (6 * n + 1)), .int (gX G (6 * n + 2))] dL_law_461 vX11_piece kL_63 k28_ rfl rfl rfl (Nat.le_of_ble_eq_true rfl) (by omega) (er_) (fun v2_ h2 e2_ => ?_)
          obtain ⟨rfl, S2_⟩ := kr_ v2_ h2 e2_
          refine Ev_icmp_eqT 812 dL_law_464 (by decide) (fun zb464_ => ?_) (fun zb464_ => ?_)
          · refine Ev_iincN 6 dL_law_812 (by decide) (by decide) rfl ?_
            refine Ev_goto 18 dL_law_815 (by decide) ?_
            rw [show 6 * n + 6 = 6 * (n + 1) by omega]
            exact ih_ (n + 1) (by omega) (by omega) h2 S2_
          · exact absurd rfl zb464_
        · refine Ev_tableIn (off := 436) 469 dL_law_33 (by rw [zw_]; decide) (by rw [zw_]; decide) (by rw [zw_]; rfl) (by decide) ?_
          refine Ev_aload_n dL_law_469 rfl (by first | exact Or.inr ⟨_, rfl⟩ | exact rv_or _ | exact Or.inl rfl) ?_
          refine Ev_aload_n dL_law_470 rfl (by first | exact Or.inr ⟨_, rfl⟩ | exact rv_or _ | exact Or.inl rfl) ?_
          refine Ev_iload_n dL_law_471 rfl ?_
          refine Ev_iconst (v := nI 1) dL_law_472 (by decide) ?_
          refine Ev_iaddN dL_law_473 ?_
          refine Ev_sld (6 * n + 1) dL_law_474 (hi_n (by omega)) (by omega) ?_
          refine Ev_aload_n dL_law_475 rfl (by first | exact Or.inr ⟨_, rfl⟩ | exact rv_or _ | exact Or.inl rfl) ?_
          refine Ev_iload_n dL_law_476 rfl ?_
          refine Ev_iconst (v := nI 2) dL_law_477 (by decide) ?_
          refine Ev_iaddN dL_law_478 ?_
          refine Ev_sld (6 * n + 2) dL_law_479 (hi_n (by omega)) (by omega) ?_
          refine Ev_aload_n dL_law_480 rfl (by first | exact Or.inr ⟨_, rfl⟩ | exact rv_or _ | exact Or.inl rfl) ?_
          refine Ev_iload_n dL_law_481 rfl ?_
          refine Ev_iconst (v := nI 3) dL_law_482 (by decide) ?_
          refine Ev_iaddN dL_law_483 ?_
          refine Ev_sld (6 * n + 3) dL_law_484 (hi_n (by omega)) (by omega) ?_
          obtain ⟨QC_, ec_, kc_⟩ := pr_byteOf l G (gX G (6 * n + 1)) (gX G (6 * n + 2)) (gX G (6 * n + 3)) S_ hn_
          refine Ev_Vg (mc2 := 750 * (gL G / 6 - (n + 1))) (ms2 := 13750 * (gL G / 6 - (n + 1))) [.int (gX G (6 * n + 1)), .int (gX G (6 * n + 2)), .int (gX G (6 * n + 3))] dL_law_485 vX10_byteOf kL_64 S_.k rfl rfl rfl (Nat.le_of_ble_eq_true rfl) (by omega) (by omega) (by omega) (ec_) (fun v_ h1 e_ => ?_)
          obtain ⟨x_, QR_, rfl, k28_, er_, kr_⟩ := kc_ v_ h1 e_
          refine Ev_aload_n dL_law_488 rfl (by first | exact Or.inr ⟨_, rfl⟩ | exact rv_or _ | exact Or.inl rfl) ?_
          refine Ev_aload_n dL_law_489 rfl (by first | exact Or.inr ⟨_, rfl⟩ | exact rv_or _ | exact Or.inl rfl) ?_
          refine Ev_iload_n dL_law_490 rfl ?_
          refine Ev_iconst (v := nI 1) dL_law_491 (by decide) ?_
          refine Ev_iaddN dL_law_492 ?_
          refine Ev_sld (6 * n + 1) dL_law_493 (hi_n (by omega)) (by omega) ?_
          refine Ev_aload_n dL_law_494 rfl (by first | exact Or.inr ⟨_, rfl⟩ | exact rv_or _ | exact Or.inl rfl) ?_
          refine Ev_iload_n dL_law_495 rfl ?_
          refine Ev_iconst (v := nI 2) dL_law_496 (by decide) ?_
          refine Ev_iaddN dL_law_497 ?_
          refine Ev_sld (6 * n + 2) dL_law_498 (hi_n (by omega)) (by omega) ?_
          refine Ev_aload_n dL_law_499 rfl (by first | exact Or.inr ⟨_, rfl⟩ | exact rv_or _ | exact Or.inl rfl) ?_
          refine Ev_iload_n dL_law_500 rfl ?_
          refine Ev_iconst (v := nI 3) dL_law_501 (by decide) ?_
          refine Ev_iaddN dL_law_502 ?_
          refine Ev_sld (6 * n + 3) dL_law_503 (hi_n (by omega)) (by omega) ?_
          refine Ev_Vz [.int (gX G (6 * n + 1)), .int (gX G (6 * n + 2)), .int (gX G (6 * n + 3))] dL_law_504 vX11_byteOf kL_68 k28_ rfl rfl rfl (Nat.le_of_ble_eq_true rfl) (by omega) (er_) (fun v2_ h2 e2_ => ?_)
          obtain ⟨rfl, S2_⟩ := kr_ v2_ h2 e2_
          refine Ev_icmp_eqT 812 dL_law_507 (by decide) (fun zb507_ => ?_) (fun zb507_ => ?_)
          · refine Ev_iincN 6 dL_law_812 (by decide) (by decide) rfl ?_
            refine Ev_goto 18 dL_law_815 (by decide) ?_
            rw [show 6 * n + 6 = 6 * (n + 1) by omega]
            exact ih_ (n + 1) (by omega) (by omega) h2 S2_
          · exact absurd rfl zb507_
        · refine Ev_tableIn (off := 479) 512 dL_law_33 (by rw [zw_]; decide) (by rw [zw_]; decide) (by rw [zw_]; rfl) (by decide) ?_
          refine Ev_aload_n dL_law_512 rfl (by first | exact Or.inr ⟨_, rfl⟩ | exact rv_or _ | exact Or.inl rfl) ?_
          refine Ev_aload_n dL_law_513 rfl (by first | exact Or.inr ⟨_, rfl⟩ | exact rv_or _ | exact Or.inl rfl) ?_
          refine Ev_iload_n dL_law_514 rfl ?_
          refine Ev_iconst (v := nI 1) dL_law_515 (by decide) ?_
          refine Ev_iaddN dL_law_516 ?_
          refine Ev_sld (6 * n + 1) dL_law_517 (hi_n (by omega)) (by omega) ?_
          obtain ⟨QC_, ec_, kc_⟩ := pr_hand l G (gX G (6 * n + 1)) S_ hn_
          refine Ev_Vg (mc2 := 750 * (gL G / 6 - (n + 1))) (ms2 := 13750 * (gL G / 6 - (n + 1))) [.int (gX G (6 * n + 1))] dL_law_518 vX10_hand kL_69 S_.k rfl rfl rfl (Nat.le_of_ble_eq_true rfl) (by omega) (by omega) (by omega) (ec_) (fun v_ h1 e_ => ?_)
          obtain ⟨x_, QR_, rfl, k28_, er_, kr_⟩ := kc_ v_ h1 e_
          refine Ev_aload_n dL_law_521 rfl (by first | exact Or.inr ⟨_, rfl⟩ | exact rv_or _ | exact Or.inl rfl) ?_
          refine Ev_aload_n dL_law_522 rfl (by first | exact Or.inr ⟨_, rfl⟩ | exact rv_or _ | exact Or.inl rfl) ?_
          refine Ev_iload_n dL_law_523 rfl ?_
          refine Ev_iconst (v := nI 1) dL_law_524 (by decide) ?_
          refine Ev_iaddN dL_law_525 ?_
          refine Ev_sld (6 * n + 1) dL_law_526 (hi_n (by omega)) (by omega) ?_
          refine Ev_Vz [.int (gX G (6 * n + 1))] dL_law_527 vX11_hand kL_72 k28_ rfl rfl rfl (Nat.le_of_ble_eq_true rfl) (by omega) (er_) (fun v2_ h2 e2_ => ?_)
          obtain ⟨rfl, S2_⟩ := kr_ v2_ h2 e2_
          refine Ev_icmp_eqT 812 dL_law_530 (by decide) (fun zb530_ => ?_) (fun zb530_ => ?_)
          · refine Ev_iincN 6 dL_law_812 (by decide) (by decide) rfl ?_
            refine Ev_goto 18 dL_law_815 (by decide) ?_
            rw [show 6 * n + 6 = 6 * (n + 1) by omega]
            exact ih_ (n + 1) (by omega) (by omega) h2 S2_
          · exact absurd rfl zb530_
        · refine Ev_tableIn (off := 502) 535 dL_law_33 (by rw [zw_]; decide) (by rw [zw_]; decide) (by rw [zw_]; rfl) (by decide) ?_
          refine Ev_aload_n dL_law_535 rfl (by first | exact Or.inr ⟨_, rfl⟩ | exact rv_or _ | exact Or.inl rfl) ?_
          refine Ev_aload_n dL_law_536 rfl (by first | exact Or.inr ⟨_, rfl⟩ | exact rv_or _ | exact Or.inl rfl) ?_
          refine Ev_iload_n dL_law_537 rfl ?_
          refine Ev_iconst (v := nI 1) dL_law_538 (by decide) ?_
          refine Ev_iaddN dL_law_539 ?_
          refine Ev_sld (6 * n + 1) dL_law_540 (hi_n (by omega)) (by omega) ?_
          refine Ev_aload_n dL_law_541 rfl (by first | exact Or.inr ⟨_, rfl⟩ | exact rv_or _ | exact Or.inl rfl) ?_
          refine Ev_iload_n dL_law_542 rfl ?_
          refine Ev_iconst (v := nI 2) dL_law_543 (by decide) ?_
          refine Ev_iaddN dL_law_544 ?_
          refine Ev_sld (6 * n + 2) dL_law_545 (hi_n (by omega)) (by omega) ?_
          obtain ⟨QC_, ec_, kc_⟩ := pr_take l G (gX G (6 * n + 1)) (gX G (6 * n + 2)) S_ hn_
          refine Ev_Vg (mc2 := 750 * (gL G / 6 - (n + 1))) (ms2 := 13750 * (gL G / 6 - (n + 1))) [.int (gX G (6 * n + 1)), .int (gX G (6 * n + 2))] dL_law_546 vX10_take kL_73 S_.k rfl rfl rfl (Nat.le_of_ble_eq_true rfl) (by omega) (by omega) (by omega) (ec_) (fun v_ h1 e_ => ?_)
          obtain ⟨x_, QR_, rfl, k28_, er_, kr_⟩ := kc_ v_ h1 e_
          refine Ev_aload_n dL_law_549 rfl (by first | exact Or.inr ⟨_, rfl⟩ | exact rv_or _ | exact Or.inl rfl) ?_
          refine Ev_aload_n dL_law_550 rfl (by first | exact Or.inr ⟨_, rfl⟩ | exact rv_or _ | exact Or.inl rfl) ?_
          refine Ev_iload_n dL_law_551 rfl ?_
          refine Ev_iconst (v := nI 1) dL_law_552 (by decide) ?_
          refine Ev_iaddN dL_law_553 ?_
          refine Ev_sld (6 * n + 1) dL_law_554 (hi_n (by omega)) (by omega) ?_
          refine Ev_aload_n dL_law_555 rfl (by first | exact Or.inr ⟨_, rfl⟩ | exact rv_or _ | exact Or.inl rfl) ?_
          refine Ev_iload_n dL_law_556 rfl ?_
          refine Ev_iconst (v := nI 2) dL_law_557 (by decide) ?_
          refine Ev_iaddN dL_law_558 ?_
          refine Ev_sld (6 * n + 2) dL_law_559 (hi_n (by omega)) (by omega) ?_
          refine Ev_Vz [.int (gX G (6 * n + 1)), .int (gX G (6 * n + 2))] dL_law_560 vX11_take kL_76 k28_ rfl rfl rfl (Nat.le_of_ble_eq_true rfl) (by omega) (er_) (fun v2_ h2 e2_ => ?_)
          obtain ⟨rfl, S2_⟩ := kr_ v2_ h2 e2_
          refine Ev_icmp_eqT 812 dL_law_563 (by decide) (fun zb563_ => ?_) (fun zb563_ => ?_)
          · refine Ev_iincN 6 dL_law_812 (by decide) (by decide) rfl ?_
            refine Ev_goto 18 dL_law_815 (by decide) ?_
            rw [show 6 * n + 6 = 6 * (n + 1) by omega]
            exact ih_ (n + 1) (by omega) (by omega) h2 S2_
          · exact absurd rfl zb563_
        · refine Ev_tableIn (off := 535) 568 dL_law_33 (by rw [zw_]; decide) (by rw [zw_]; decide) (by rw [zw_]; rfl) (by decide) ?_
          refine Ev_aload_n dL_law_568 rfl (by first | exact Or.inr ⟨_, rfl⟩ | exact rv_or _ | exact Or.inl rfl) ?_
          refine Ev_aload_n dL_law_569 rfl (by first | exact Or.inr ⟨_, rfl⟩ | exact rv_or _ | exact Or.inl rfl) ?_
          refine Ev_iload_n dL_law_570 rfl ?_
          refine Ev_iconst (v := nI 1) dL_law_571 (by decide) ?_
          refine Ev_iaddN dL_law_572 ?_
          refine Ev_sld (6 * n + 1) dL_law_573 (hi_n (by omega)) (by omega) ?_
          obtain ⟨QC_, ec_, kc_⟩ := pr_back l G (gX G (6 * n + 1)) S_ hn_
          refine Ev_Vg (mc2 := 750 * (gL G / 6 - (n + 1))) (ms2 := 13750 * (gL G / 6 - (n + 1))) [.int (gX G (6 * n + 1))] dL_law_574 vX10_back kL_77 S_.k rfl rfl rfl (Nat.le_of_ble_eq_true rfl) (by omega) (by omega) (by omega) (ec_) (fun v_ h1 e_ => ?_)
          obtain ⟨x_, QR_, rfl, k28_, er_, kr_⟩ := kc_ v_ h1 e_
          refine Ev_aload_n dL_law_577 rfl (by first | exact Or.inr ⟨_, rfl⟩ | exact rv_or _ | exact Or.inl rfl) ?_
          refine Ev_aload_n dL_law_578 rfl (by first | exact Or.inr ⟨_, rfl⟩ | exact rv_or _ | exact Or.inl rfl) ?_
          refine Ev_iload_n dL_law_579 rfl ?_
          refine Ev_iconst (v := nI 1) dL_law_580 (by decide) ?_
          refine Ev_iaddN dL_law_581 ?_
          refine Ev_sld (6 * n + 1) dL_law_582 (hi_n (by omega)) (by omega) ?_
          refine Ev_Vz [.int (gX G (6 * n + 1))] dL_law_583 vX11_back kL_80 k28_ rfl rfl rfl (Nat.le_of_ble_eq_true rfl) (by omega) (er_) (fun v2_ h2 e2_ => ?_)
          obtain ⟨rfl, S2_⟩ := kr_ v2_ h2 e2_
          refine Ev_icmp_eqT 812 dL_law_586 (by decide) (fun zb586_ => ?_) (fun zb586_ => ?_)
          · refine Ev_iincN 6 dL_law_812 (by decide) (by decide) rfl ?_
            refine Ev_goto 18 dL_law_815 (by decide) ?_
            rw [show 6 * n + 6 = 6 * (n + 1) by omega]
            exact ih_ (n + 1) (by omega) (by omega) h2 S2_
          · exact absurd rfl zb586_
        · refine Ev_tableIn (off := 558) 591 dL_law_33 (by rw [zw_]; decide) (by rw [zw_]; decide) (by rw [zw_]; rfl) (by decide) ?_
          refine Ev_aload_n dL_law_591 rfl (by first | exact Or.inr ⟨_, rfl⟩ | exact rv_or _ | exact Or.inl rfl) ?_
          refine Ev_aload_n dL_law_592 rfl (by first | exact Or.inr ⟨_, rfl⟩ | exact rv_or _ | exact Or.inl rfl) ?_
          refine Ev_iload_n dL_law_593 rfl ?_
          refine Ev_iconst (v := nI 1) dL_law_594 (by decide) ?_
          refine Ev_iaddN dL_law_595 ?_
          refine Ev_sld (6 * n + 1) dL_law_596 (hi_n (by omega)) (by omega) ?_
          refine Ev_aload_n dL_law_597 rfl (by first | exact Or.inr ⟨_, rfl⟩ | exact rv_or _ | exact Or.inl rfl) ?_
          refine Ev_iload_n dL_law_598 rfl ?_
          refine Ev_iconst (v := nI 2) dL_law_599 (by decide) ?_
          refine Ev_iaddN dL_law_600 ?_
          refine Ev_sld (6 * n + 2) dL_law_601 (hi_n (by omega)) (by omega) ?_
          refine Ev_aload_n dL_law_602 rfl (by first | exact Or.inr ⟨_, rfl⟩ | exact rv_or _ | exact Or.inl rfl) ?_
          refine Ev_iload_n dL_law_603 rfl ?_
          refine Ev_iconst (v := nI 3) dL_law_604 (by decide) ?_
          refine Ev_iaddN dL_law_605 ?_
          refine Ev_sld (6 * n + 3) dL_law_606 (hi_n (by omega)) (by omega) ?_
          refine Ev_aload_n dL_law_607 rfl (by first | exact Or.inr ⟨_, rfl⟩ | exact rv_or _ | exact Or.inl rfl) ?_
          refine Ev_iload_n dL_law_608 rfl ?_
          refine Ev_iconst (v := nI 4) dL_law_609 (by decide) ?_
          refine Ev_iaddN dL_law_610 ?_
          refine Ev_sld (6 * n + 4) dL_law_611 (hi_n (by omega)) (by omega) ?_
          obtain ⟨QC_, ec_, kc_⟩ := pr_touch l G (gX G (6 * n + 1)) (gX G (6 * n + 2)) (gX G (6 * n + 3)) (gX G (6 * n + 4)) S_ hn_
          refine Ev_Vg (mc2 := 750 * (gL G / 6 - (n + 1))) (ms2 := 13750 * (gL G / 6 - (n + 1))) [.int (gX G (6 * n + 1)), .int (gX G (6 * n + 2)), .int (gX G (6 * n + 3)), .int (gX G (6 * n + 4))] dL_law_612 vX10_touch kL_81 S_.k rfl rfl rfl (Nat.le_of_ble_eq_true rfl) (by omega) (by omega) (by omega) (ec_) (fun v_ h1 e_ => ?_)
          obtain ⟨x_, QR_, rfl, k28_, er_, kr_⟩ := kc_ v_ h1 e_
          refine Ev_aload_n dL_law_615 rfl (by first | exact Or.inr ⟨_, rfl⟩ | exact rv_or _ | exact Or.inl rfl) ?_
          refine Ev_aload_n dL_law_616 rfl (by first | exact Or.inr ⟨_, rfl⟩ | exact rv_or _ | exact Or.inl rfl) ?_
          refine Ev_iload_n dL_law_617 rfl ?_
          refine Ev_iconst (v := nI 1) dL_law_618 (by decide) ?_
          refine Ev_iaddN dL_law_619 ?_
          refine Ev_sld (6 * n + 1) dL_law_620 (hi_n (by omega)) (by omega) ?_
          refine Ev_aload_n dL_law_621 rfl (by first | exact Or.inr ⟨_, rfl⟩ | exact rv_or _ | exact Or.inl rfl) ?_
          refine Ev_iload_n dL_law_622 rfl ?_
          refine Ev_iconst (v := nI 2) dL_law_623 (by decide) ?_
          refine Ev_iaddN dL_law_624 ?_
          refine Ev_sld (6 * n + 2) dL_law_625 (hi_n (by omega)) (by omega) ?_
          refine Ev_aload_n dL_law_626 rfl (by first | exact Or.inr ⟨_, rfl⟩ | exact rv_or _ | exact Or.inl rfl) ?_
          refine Ev_iload_n dL_law_627 rfl ?_
          refine Ev_iconst (v := nI 3) dL_law_628 (by decide) ?_
          refine Ev_iaddN dL_law_629 ?_
          refine Ev_sld (6 * n + 3) dL_law_630 (hi_n (by omega)) (by omega) ?_
          refine Ev_aload_n dL_law_631 rfl (by first | exact Or.inr ⟨_, rfl⟩ | exact rv_or _ | exact Or.inl rfl) ?_
          refine Ev_iload_n dL_law_632 rfl ?_
          refine Ev_iconst (v := nI 4) dL_law_633 (by decide) ?_
          refine Ev_iaddN dL_law_634 ?_
          refine Ev_sld (6 * n + 4) dL_law_635 (hi_n (by omega)) (by omega) ?_
          refine Ev_Vz [.int (gX G (6 * n + 1)), .int (gX G (6 * n + 2)), .int (gX G (6 * n + 3)), .int (gX G (6 * n + 4))] dL_law_636 vX11_touch kL_85 k28_ rfl rfl rfl (Nat.le_of_ble_eq_true rfl) (by omega) (er_) (fun v2_ h2 e2_ => ?_)
          obtain ⟨rfl, S2_⟩ := kr_ v2_ h2 e2_
          refine Ev_icmp_eqT 812 dL_law_639 (by decide) (fun zb639_ => ?_) (fun zb639_ => ?_)
          · refine Ev_iincN 6 dL_law_812 (by decide) (by decide) rfl ?_
            refine Ev_goto 18 dL_law_815 (by decide) ?_
            rw [show 6 * n + 6 = 6 * (n + 1) by omega]
            exact ih_ (n + 1) (by omega) (by omega) h2 S2_
          · exact absurd rfl zb639_
        · refine Ev_tableIn (off := 611) 644 dL_law_33 (by rw [zw_]; decide) (by rw [zw_]; decide) (by rw [zw_]; rfl) (by decide) ?_
          refine Ev_aload_n dL_law_644 rfl (by first | exact Or.inr ⟨_, rfl⟩ | exact rv_or _ | exact Or.inl rfl) ?_
          refine Ev_aload_n dL_law_645 rfl (by first | exact Or.inr ⟨_, rfl⟩ | exact rv_or _ | exact Or.inl rfl) ?_
          refine Ev_iload_n dL_law_646 rfl ?_
          refine Ev_iconst (v := nI 1) dL_law_647 (by decide) ?_
          refine Ev_iaddN dL_law_648 ?_
          refine Ev_sld (6 * n + 1) dL_law_649 (hi_n (by omega)) (by omega) ?_
          obtain ⟨QC_, ec_, kc_⟩ := pr_text l G (gX G (6 * n + 1)) S_ hn_
          refine Ev_Vg (mc2 := 750 * (gL G / 6 - (n + 1))) (ms2 := 13750 * (gL G / 6 - (n + 1))) [.int (gX G (6 * n + 1))] dL_law_650 vX10_text kL_86 S_.k rfl rfl rfl (Nat.le_of_ble_eq_true rfl) (by omega) (by omega) (by omega) (ec_) (fun v_ h1 e_ => ?_)
          obtain ⟨x_, QR_, rfl, k28_, er_, kr_⟩ := kc_ v_ h1 e_
          refine Ev_aload_n dL_law_653 rfl (by first | exact Or.inr ⟨_, rfl⟩ | exact rv_or _ | exact Or.inl rfl) ?_
          refine Ev_aload_n dL_law_654 rfl (by first | exact Or.inr ⟨_, rfl⟩ | exact rv_or _ | exact Or.inl rfl) ?_
          refine Ev_iload_n dL_law_655 rfl ?_
          refine Ev_iconst (v := nI 1) dL_law_656 (by decide) ?_
          refine Ev_iaddN dL_law_657 ?_
          refine Ev_sld (6 * n + 1) dL_law_658 (hi_n (by omega)) (by omega) ?_
          refine Ev_Vz [.int (gX G (6 * n + 1))] dL_law_659 vX11_text kL_89 k28_ rfl rfl rfl (Nat.le_of_ble_eq_true rfl) (by omega) (er_) (fun v2_ h2 e2_ => ?_)
          obtain ⟨rfl, S2_⟩ := kr_ v2_ h2 e2_
          refine Ev_icmp_eqT 812 dL_law_662 (by decide) (fun zb662_ => ?_) (fun zb662_ => ?_)
          · refine Ev_iincN 6 dL_law_812 (by decide) (by decide) rfl ?_
            refine Ev_goto 18 dL_law_815 (by decide) ?_
            rw [show 6 * n + 6 = 6 * (n + 1) by omega]
            exact ih_ (n + 1) (by omega) (by omega) h2 S2_
          · exact absurd rfl zb662_
        · refine Ev_tableIn (off := 634) 667 dL_law_33 (by rw [zw_]; decide) (by rw [zw_]; decide) (by rw [zw_]; rfl) (by decide) ?_
          refine Ev_aload_n dL_law_667 rfl (by first | exact Or.inr ⟨_, rfl⟩ | exact rv_or _ | exact Or.inl rfl) ?_
          refine Ev_aload_n dL_law_668 rfl (by first | exact Or.inr ⟨_, rfl⟩ | exact rv_or _ | exact Or.inl rfl) ?_
          refine Ev_iload_n dL_law_669 rfl ?_
          refine Ev_iconst (v := nI 1) dL_law_670 (by decide) ?_
          refine Ev_iaddN dL_law_671 ?_
          refine Ev_sld (6 * n + 1) dL_law_672 (hi_n (by omega)) (by omega) ?_
          obtain ⟨QC_, ec_, kc_⟩ := pr_maker l G (gX G (6 * n + 1)) S_ hn_
          refine Ev_Vg (mc2 := 750 * (gL G / 6 - (n + 1))) (ms2 := 13750 * (gL G / 6 - (n + 1))) [.int (gX G (6 * n + 1))] dL_law_673 vX10_maker kL_90 S_.k rfl rfl rfl (Nat.le_of_ble_eq_true rfl) (by omega) (by omega) (by omega) (ec_) (fun v_ h1 e_ => ?_)
          obtain ⟨x_, QR_, rfl, k28_, er_, kr_⟩ := kc_ v_ h1 e_
          refine Ev_aload_n dL_law_676 rfl (by first | exact Or.inr ⟨_, rfl⟩ | exact rv_or _ | exact Or.inl rfl) ?_
          refine Ev_aload_n dL_law_677 rfl (by first | exact Or.inr ⟨_, rfl⟩ | exact rv_or _ | exact Or.inl rfl) ?_
          refine Ev_iload_n dL_law_678 rfl ?_
          refine Ev_iconst (v := nI 1) dL_law_679 (by decide) ?_
          refine Ev_iaddN dL_law_680 ?_
          refine Ev_sld (6 * n + 1) dL_law_681 (hi_n (by omega)) (by omega) ?_
          refine Ev_Vz [.int (gX G (6 * n + 1))] dL_law_682 vX11_maker kL_93 k28_ rfl rfl rfl (Nat.le_of_ble_eq_true rfl) (by omega) (er_) (fun v2_ h2 e2_ => ?_)
          obtain ⟨rfl, S2_⟩ := kr_ v2_ h2 e2_
          refine Ev_icmp_eqT 812 dL_law_685 (by decide) (fun zb685_ => ?_) (fun zb685_ => ?_)
          · refine Ev_iincN 6 dL_law_812 (by decide) (by decide) rfl ?_
            refine Ev_goto 18 dL_law_815 (by decide) ?_
            rw [show 6 * n + 6 = 6 * (n + 1) by omega]
            exact ih_ (n + 1) (by omega) (by omega) h2 S2_
          · exact absurd rfl zb685_
        · refine Ev_tableIn (off := 657) 690 dL_law_33 (by rw [zw_]; decide) (by rw [zw_]; decide) (by rw [zw_]; rfl) (by decide) ?_
          refine Ev_aload_n dL_law_690 rfl (by first | exact Or.inr ⟨_, rfl⟩ | exact rv_or _ | exact Or.inl rfl) ?_
          refine Ev_aload_n dL_law_691 rfl (by first | exact Or.inr ⟨_, rfl⟩ | exact rv_or _ | exact Or.inl rfl) ?_
          refine Ev_iload_n dL_law_692 rfl ?_
          refine Ev_iconst (v := nI 1) dL_law_693 (by decide) ?_
          refine Ev_iaddN dL_law_694 ?_
          refine Ev_sld (6 * n + 1) dL_law_695 (hi_n (by omega)) (by omega) ?_
          refine Ev_aload_n dL_law_696 rfl (by first | exact Or.inr ⟨_, rfl⟩ | exact rv_or _ | exact Or.inl rfl) ?_
          refine Ev_iload_n dL_law_697 rfl ?_
          refine Ev_iconst (v := nI 2) dL_law_698 (by decide) ?_
          refine Ev_iaddN dL_law_699 ?_
          refine Ev_sld (6 * n + 2) dL_law_700 (hi_n (by omega)) (by omega) ?_
          refine Ev_aload_n dL_law_701 rfl (by first | exact Or.inr ⟨_, rfl⟩ | exact rv_or _ | exact Or.inl rfl) ?_
          refine Ev_iload_n dL_law_702 rfl ?_
          refine Ev_iconst (v := nI 3) dL_law_703 (by decide) ?_
          refine Ev_iaddN dL_law_704 ?_
          refine Ev_sld (6 * n + 3) dL_law_705 (hi_n (by omega)) (by omega) ?_
          obtain ⟨QC_, ec_, kc_⟩ := pr_lone l G (gX G (6 * n + 1)) (gX G (6 * n + 2)) (gX G (6 * n + 3)) S_ hn_
          refine Ev_Vg (mc2 := 750 * (gL G / 6 - (n + 1))) (ms2 := 13750 * (gL G / 6 - (n + 1))) [.int (gX G (6 * n + 1)), .int (gX G (6 * n + 2)), .int (gX G (6 * n + 3))] dL_law_706 vX10_lone kL_94 S_.k rfl rfl rfl (Nat.le_of_ble_eq_true rfl) (by omega) (by omega) (by omega) (ec_) (fun v_ h1 e_ => ?_)
          obtain ⟨x_, QR_, rfl, k28_, er_, kr_⟩ := kc_ v_ h1 e_
          refine Ev_aload_n dL_law_709 rfl (by first | exact Or.inr ⟨_, rfl⟩ | exact rv_or _ | exact Or.inl rfl) ?_
          refine Ev_aload_n dL_law_710 rfl (by first | exact Or.inr ⟨_, rfl⟩ | exact rv_or _ | exact Or.inl rfl) ?_
          refine Ev_iload_n dL_law_711 rfl ?_
          refine Ev_iconst (v := nI 1) dL_law_712 (by decide) ?_
          refine Ev_iaddN dL_law_713 ?_
          refine Ev_sld (6 * n + 1) dL_law_714 (hi_n (by omega)) (by omega) ?_
          refine Ev_aload_n dL_law_715 rfl (by first | exact Or.inr ⟨_, rfl⟩ | exact rv_or _ | exact Or.inl rfl) ?_
          refine Ev_iload_n dL_law_716 rfl ?_
          refine Ev_iconst (v := nI 2) dL_law_717 (by decide) ?_
          refine Ev_iaddN dL_law_718 ?_
          refine Ev_sld (6 * n + 2) dL_law_719 (hi_n (by omega)) (by omega) ?_
          refine Ev_aload_n dL_law_720 rfl (by first | exact Or.inr ⟨_, rfl⟩ | exact rv_or _ | exact Or.inl rfl) ?_
          refine Ev_iload_n dL_law_721 rfl ?_
          refine Ev_iconst (v := nI 3) dL_law_722 (by decide) ?_
          refine Ev_iaddN dL_law_723 ?_
          refine Ev_sld (6 * n + 3) dL_law_724 (hi_n (by omega)) (by omega) ?_
          refine Ev_Vz [.int (gX G (6 * n + 1)), .int (gX G (6 * n + 2)), .int (gX G (6 * n + 3))] dL_law_725 vX11_lone kL_97 k28_ rfl rfl rfl (Nat.le_of_ble_eq_true rfl) (by omega) (er_) (fun v2_ h2 e2_ => ?_)
          obtain ⟨rfl, S2_⟩ := kr_ v2_ h2 e2_
          refine Ev_icmp_eqT 812 dL_law_728 (by decide) (fun zb728_ => ?_) (fun zb728_ => ?_)
          · refine Ev_iincN 6 dL_law_812 (by decide) (by decide) rfl ?_
            refine Ev_goto 18 dL_law_815 (by decide) ?_
            rw [show 6 * n + 6 = 6 * (n + 1) by omega]
            exact ih_ (n + 1) (by omega) (by omega) h2 S2_
          · exact absurd rfl zb728_
        · refine Ev_tableIn (off := 700) 733 dL_law_33 (by rw [zw_]; decide) (by rw [zw_]; decide) (by rw [zw_]; rfl) (by decide) ?_
          refine Ev_aload_n dL_law_733 rfl (by first | exact Or.inr ⟨_, rfl⟩ | exact rv_or _ | exact Or.inl rfl) ?_
          refine Ev_aload_n dL_law_734 rfl (by first | exact Or.inr ⟨_, rfl⟩ | exact rv_or _ | exact Or.inl rfl) ?_
          refine Ev_iload_n dL_law_735 rfl ?_
          refine Ev_iconst (v := nI 1) dL_law_736 (by decide) ?_
          refine Ev_iaddN dL_law_737 ?_
          refine Ev_sld (6 * n + 1) dL_law_738 (hi_n (by omega)) (by omega) ?_
          obtain ⟨QC_, ec_, kc_⟩ := pr_drops l G (gX G (6 * n + 1)) S_ hn_
          refine Ev_Vg (mc2 := 750 * (gL G / 6 - (n + 1))) (ms2 := 13750 * (gL G / 6 - (n + 1))) [.int (gX G (6 * n + 1))] dL_law_739 vX10_drops kL_98 S_.k rfl rfl rfl (Nat.le_of_ble_eq_true rfl) (by omega) (by omega) (by omega) (ec_) (fun v_ h1 e_ => ?_)
          obtain ⟨x_, QR_, rfl, k28_, er_, kr_⟩ := kc_ v_ h1 e_
          refine Ev_aload_n dL_law_742 rfl (by first | exact Or.inr ⟨_, rfl⟩ | exact rv_or _ | exact Or.inl rfl) ?_
          refine Ev_aload_n dL_law_743 rfl (by first | exact Or.inr ⟨_, rfl⟩ | exact rv_or _ | exact Or.inl rfl) ?_
          refine Ev_iload_n dL_law_744 rfl ?_
          refine Ev_iconst (v := nI 1) dL_law_745 (by decide) ?_
          refine Ev_iaddN dL_law_746 ?_
          refine Ev_sld (6 * n + 1) dL_law_747 (hi_n (by omega)) (by omega) ?_
          refine Ev_Vz [.int (gX G (6 * n + 1))] dL_law_748 vX11_drops kL_101 k28_ rfl rfl rfl (Nat.le_of_ble_eq_true rfl) (by omega) (er_) (fun v2_ h2 e2_ => ?_)
          obtain ⟨rfl, S2_⟩ := kr_ v2_ h2 e2_
          refine Ev_icmp_eqT 812 dL_law_751 (by decide) (fun zb751_ => ?_) (fun zb751_ => ?_)
          · refine Ev_iincN 6 dL_law_812 (by decide) (by decide) rfl ?_
            refine Ev_goto 18 dL_law_815 (by decide) ?_
            rw [show 6 * n + 6 = 6 * (n + 1) by omega]
            exact ih_ (n + 1) (by omega) (by omega) h2 S2_
          · exact absurd rfl zb751_
        · refine Ev_tableIn (off := 723) 756 dL_law_33 (by rw [zw_]; decide) (by rw [zw_]; decide) (by rw [zw_]; rfl) (by decide) ?_
          refine Ev_aload_n dL_law_756 rfl (by first | exact Or.inr ⟨_, rfl⟩ | exact rv_or _ | exact Or.inl rfl) ?_
          refine Ev_aload_n dL_law_757 rfl (by first | exact Or.inr ⟨_, rfl⟩ | exact rv_or _ | exact Or.inl rfl) ?_
          refine Ev_iload_n dL_law_758 rfl ?_
          refine Ev_iconst (v := nI 1) dL_law_759 (by decide) ?_
          refine Ev_iaddN dL_law_760 ?_
          refine Ev_sld (6 * n + 1) dL_law_761 (hi_n (by omega)) (by omega) ?_
          refine Ev_aload_n dL_law_762 rfl (by first | exact Or.inr ⟨_, rfl⟩ | exact rv_or _ | exact Or.inl rfl) ?_
          refine Ev_iload_n dL_law_763 rfl ?_
          refine Ev_iconst (v := nI 2) dL_law_764 (by decide) ?_
          refine Ev_iaddN dL_law_765 ?_
          refine Ev_sld (6 * n + 2) dL_law_766 (hi_n (by omega)) (by omega) ?_
          obtain ⟨QC_, ec_, kc_⟩ := pr_thingOf l G (gX G (6 * n + 1)) (gX G (6 * n + 2)) S_ hn_
          refine Ev_Vg (mc2 := 750 * (gL G / 6 - (n + 1))) (ms2 := 13750 * (gL G / 6 - (n + 1))) [.int (gX G (6 * n + 1)), .int (gX G (6 * n + 2))] dL_law_767 vX10_thingOf kL_102 S_.k rfl rfl rfl (Nat.le_of_ble_eq_true rfl) (by omega) (by omega) (by omega) (ec_) (fun v_ h1 e_ => ?_)
          obtain ⟨x_, QR_, rfl, k28_, er_, kr_⟩ := kc_ v_ h1 e_
          refine Ev_aload_n dL_law_770 rfl (by first | exact Or.inr ⟨_, rfl⟩ | exact rv_or _ | exact Or.inl rfl) ?_
          refine Ev_aload_n dL_law_771 rfl (by first | exact Or.inr ⟨_, rfl⟩ | exact rv_or _ | exact Or.inl rfl) ?_
          refine Ev_iload_n dL_law_772 rfl ?_
          refine Ev_iconst (v := nI 1) dL_law_773 (by decide) ?_
          refine Ev_iaddN dL_law_774 ?_
          refine Ev_sld (6 * n + 1) dL_law_775 (hi_n (by omega)) (by omega) ?_
          refine Ev_aload_n dL_law_776 rfl (by first | exact Or.inr ⟨_, rfl⟩ | exact rv_or _ | exact Or.inl rfl) ?_
          refine Ev_iload_n dL_law_777 rfl ?_
          refine Ev_iconst (v := nI 2) dL_law_778 (by decide) ?_
          refine Ev_iaddN dL_law_779 ?_
          refine Ev_sld (6 * n + 2) dL_law_780 (hi_n (by omega)) (by omega) ?_
          refine Ev_Vz [.int (gX G (6 * n + 1)), .int (gX G (6 * n + 2))] dL_law_781 vX11_thingOf kL_105 k28_ rfl rfl rfl (Nat.le_of_ble_eq_true rfl) (by omega) (er_) (fun v2_ h2 e2_ => ?_)
          obtain ⟨rfl, S2_⟩ := kr_ v2_ h2 e2_
          refine Ev_icmp_eqT 812 dL_law_784 (by decide) (fun zb784_ => ?_) (fun zb784_ => ?_)
          · refine Ev_iincN 6 dL_law_812 (by decide) (by decide) rfl ?_
            refine Ev_goto 18 dL_law_815 (by decide) ?_
            rw [show 6 * n + 6 = 6 * (n + 1) by omega]
            exact ih_ (n + 1) (by omega) (by omega) h2 S2_
          · exact absurd rfl zb784_
        · refine Ev_tableIn (off := 756) 789 dL_law_33 (by rw [zw_]; decide) (by rw [zw_]; decide) (by rw [zw_]; rfl) (by decide) ?_
          refine Ev_aload_n dL_law_789 rfl (by first | exact Or.inr ⟨_, rfl⟩ | exact rv_or _ | exact Or.inl rfl) ?_
          refine Ev_aload_n dL_law_790 rfl (by first | exact Or.inr ⟨_, rfl⟩ | exact rv_or _ | exact Or.inl rfl) ?_
          refine Ev_iload_n dL_law_791 rfl ?_
          refine Ev_iconst (v := nI 1) dL_law_792 (by decide) ?_
          refine Ev_iaddN dL_law_793 ?_
          refine Ev_sld (6 * n + 1) dL_law_794 (hi_n (by omega)) (by omega) ?_
          obtain ⟨QC_, ec_, kc_⟩ := pr_about l G (gX G (6 * n + 1)) S_ hn_
          refine Ev_Vg (mc2 := 750 * (gL G / 6 - (n + 1))) (ms2 := 13750 * (gL G / 6 - (n + 1))) [.int (gX G (6 * n + 1))] dL_law_795 vX10_about kL_106 S_.k rfl rfl rfl (Nat.le_of_ble_eq_true rfl) (by omega) (by omega) (by omega) (ec_) (fun v_ h1 e_ => ?_)
          obtain ⟨x_, QR_, rfl, k28_, er_, kr_⟩ := kc_ v_ h1 e_
          refine Ev_aload_n dL_law_798 rfl (by first | exact Or.inr ⟨_, rfl⟩ | exact rv_or _ | exact Or.inl rfl) ?_
          refine Ev_aload_n dL_law_799 rfl (by first | exact Or.inr ⟨_, rfl⟩ | exact rv_or _ | exact Or.inl rfl) ?_
          refine Ev_iload_n dL_law_800 rfl ?_
          refine Ev_iconst (v := nI 1) dL_law_801 (by decide) ?_
          refine Ev_iaddN dL_law_802 ?_
          refine Ev_sld (6 * n + 1) dL_law_803 (hi_n (by omega)) (by omega) ?_
          refine Ev_Vz [.int (gX G (6 * n + 1))] dL_law_804 vX11_about kL_109 k28_ rfl rfl rfl (Nat.le_of_ble_eq_true rfl) (by omega) (er_) (fun v2_ h2 e2_ => ?_)
          obtain ⟨rfl, S2_⟩ := kr_ v2_ h2 e2_
          refine Ev_icmp_eqT 812 dL_law_807 (by decide) (fun zb807_ => ?_) (fun zb807_ => ?_)
          · refine Ev_iincN 6 dL_law_812 (by decide) (by decide) rfl ?_
            refine Ev_goto 18 dL_law_815 (by decide) ?_
            rw [show 6 * n + 6 = 6 * (n + 1) by omega]
            exact ih_ (n + 1) (by omega) (by omega) h2 S2_
          · exact absurd rfl zb807_
theorem nO_i (h : aH) (ci k : Nat) : hI (nO h ci) k (hN h + 3) = 0 := if_pos rfl
theorem nO_w (h : aH) (ci a : Nat) (ne : a ≠ hN h + 3) : hK (nO h ci) a = hK h a ∧ hL (nO h ci) a = hL h a ∧ hX (nO h ci) a = hX h a ∧ hY (nO h ci) a = hY h a ∧ ∀ k, hI (nO h ci) k a = hI h k a ∧ hR (nO h ci) k a = hR h k a := ⟨up1_n _ _ ne, rfl, rfl, rfl, fun k => ⟨if_neg ne, if_neg ne⟩⟩
theorem RI_of (h : aH) (n25 : hN h = 25) : RI 0 false h (nO h 12) := by
  have e28 : (28 : Nat) = hN h + 3 := by rw [n25]
  refine ⟨by rw [nnO, n25], ?_, fun j q hj => absurd hj (Nat.not_lt_zero j), fun k _ _ => (congrArg (hI (nO h 12) k) e28).trans (nO_i h 12 k), fun z => (by cases z), fun a ha => nO_w h 12 a (by omega)⟩
  exact (congrArg (hK (nO h 12)) e28).trans (kkS h 12)
theorem ri_ : RI 0 false z25 (nO z25 12) := RI_of z25 (by decide +kernel)
theorem ev_law (l : Launch) (G : aG) (hL_ : gL G ≤ 3072) : Ev l G 100 600000 7302250 M_law 0 (en 4 [.ref 0]) [] h00 (fun v _ => v = some (.int 1)) := by
  refine Ev.wide (mc' := 599999 + 1) (ms' := 7302242 + fn 11) (by omega) (by decide) ?_
  refine Ev_new dL_law_0 nL_7 ?_
  refine Ev_top (y := .ref 3) rfl ?_
  refine Ev_dup dL_law_3 (by first | rfl | exact okv_rv _) ?_
  refine Ev_Ig (mc2 := 599975) (ms2 := 7295537) [] dL_law_4 iX10_init kL_9 rfl rfl rfl (Nat.le_of_ble_eq_true rfl) (by omega) (by omega) (by omega) (ec_init l G) (fun v_ h1_ e_ => ?_)
  obtain ⟨rfl, rfl⟩ := e_
  refine Ev_astore_n dL_law_7 (by decide) (by first | exact Or.inr ⟨_, rfl⟩ | exact rv_or _ | exact Or.inl rfl) ?_
  refine Ev.wide (mc' := 599974 + 1) (ms' := 7295485 + fn 12) (by omega) (by decide) ?_
  refine Ev_new dL_law_8 nL_10 ?_
  refine Ev_top (y := .ref 28) (congrArg Value.ref (show hN z25 + 3 = 28 by decide +kernel)) ?_
  refine Ev_dup dL_law_11 (by first | rfl | exact okv_rv _) ?_
  refine Ev_Ig (mc2 := 599937) (ms2 := 7183960) [] dL_law_12 iX11_init kL_12 rfl rfl rfl (Nat.le_of_ble_eq_true rfl) (by omega) (by omega) (by omega) (ev_init l G z25 (nO z25 12) ri_) (fun v_ h1 e_ => ?_)
  obtain ⟨rfl, r0_⟩ := e_
  refine Ev_astore_n dL_law_15 (by decide) (by first | exact Or.inr ⟨_, rfl⟩ | exact rv_or _ | exact Or.inl rfl) ?_
  refine Ev_iconst (v := nI 0) dL_law_16 (by decide) ?_
  refine Ev_istore_n dL_law_17 (by decide) ?_
  exact Ev.lift (by omega) (by omega) (by omega) (ev_loop l G hL_ (gL G / 6 + 1) 0 (by omega) (by omega) h1 (sim0 r0_))
