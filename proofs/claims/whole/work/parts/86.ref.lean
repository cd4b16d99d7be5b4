theorem rfL_len : rfL.length = 37 := by decide
theorem rfL_a {j : Nat} {q : Nat × Nat × Nat × Nat} (h : rfL[j]? = some q) : j < 37 ∧ q.2.1 = 29 + j := by
  obtain ⟨hj, e⟩ := List.getElem?_eq_some_iff.mp h
  have h37 : j < 37 := by rw [rfL_len] at hj; exact hj
  have key : ∀ j : Fin 37, (rfL[j.1]'(by rw [rfL_len]; exact j.2)).2.1 = 29 + j.1 := by decide
  rw [← e]
  exact ⟨h37, key ⟨j, h37⟩⟩
theorem rfL_f {i j : Nat} {p q : Nat × Nat × Nat × Nat} (h1 : rfL[i]? = some p) (h2 : rfL[j]? = some q) (e : p.1 = q.1) : i = j := by
  obtain ⟨hi, e1⟩ := List.getElem?_eq_some_iff.mp h1
  obtain ⟨hj, e2⟩ := List.getElem?_eq_some_iff.mp h2
  have i37 : i < 37 := by rw [rfL_len] at hi; exact hi
  have j37 : j < 37 := by rw [rfL_len] at hj; exact hj
  have key : ∀ i j : Fin 37, (rfL[i.1]'(by rw [rfL_len]; exact i.2)).1 = (rfL[j.1]'(by rw [rfL_len]; exact j.2)).1 → i = j := by decide +kernel
  rw [← e1, ← e2] at e
  exact congrArg Fin.val (key ⟨i, i37⟩ ⟨j, j37⟩ e)
def lwS (h0 h : aH) : Prop := ∀ a, a < 28 → hK h a = hK h0 a ∧ hL h a = hL h0 a ∧ hX h a = hX h0 a ∧ hY h a = hY h0 a ∧ ∀ k, hI h k a = hI h0 k a ∧ hR h k a = hR h0 k a
/-- the reference's constructor, i rows on -/
def RI (i : Nat) (b : Bool) (h0 h : aH) : Prop := hN h = 26 + i ∧ hK h 28 = 12 ∧ (∀ j q, j < i → rfL[j]? = some q → hR h q.1 28 = some q.2.1 ∧ hK h q.2.1 = q.2.2.1 ∧ hL h q.2.1 = q.2.2.2 ∧ hX h q.2.1 = fun _ => 0) ∧ (∀ k, k ≠ 782 → k ≠ 783 → hI h k 28 = 0) ∧ (b = true → hI h 782 28 = -1 ∧ hI h 783 28 = -1) ∧ lwS h0 h
theorem RI.k2 {i : Nat} {b : Bool} {h0 h : aH} {kd n : Nat} (r : RI i b h0 h) : hK (nA h kd n) 28 = 12 := (up1_n _ _ (by rw [r.1]; omega)).trans r.2.1
theorem RI.step {i f kd n : Nat} {b : Bool} {h0 h : aH} (r : RI i b h0 h) (hq : rfL[i]? = some (f, 29 + i, kd, n)) : RI (i + 1) b h0 (sR (nA h kd n) f 28 (some (hN h + 3))) := by
  obtain ⟨r1, r2, r3, r4, r5, r6⟩ := r
  have hi := (rfL_a hq).1
  have e3 : hN h + 3 = 29 + i := by omega
  refine ⟨by show hN h + 1 = _; omega, (up1_n _ _ (by omega)).trans r2, fun j q hj hqj => ?_, fun k h1 h2 => r4 k h1 h2, r5, fun a ha => ?_⟩
  · have ea := (rfL_a hqj).2
    by_cases e : j = i
    · subst e
      rw [hq] at hqj
      cases hqj
      rw [e3]
      refine ⟨up2_s _ _ _ _, ?_, ?_, ?_⟩
      · show up1 (hK h) (hN h + 3) kd (29 + j) = kd
        rw [e3, up1_s]
      · show up1 (hL h) (hN h + 3) n (29 + j) = n
        rw [e3, up1_s]
      · show up1 (hX h) (hN h + 3) (fun _ => 0) (29 + j) = _
        rw [e3, up1_s]
    · obtain ⟨a1, a2, a3, a4⟩ := r3 j q (by omega) hqj
      refine ⟨?_, ?_, ?_, ?_⟩
      · show up2 (hR h) f 28 _ q.1 28 = _
        rw [up2_k _ _ (fun z => e (rfL_f hqj hq z))]; exact a1
      · show up1 (hK h) (hN h + 3) kd q.2.1 = _
        rw [up1_n _ _ (by omega)]; exact a2
      · show up1 (hL h) (hN h + 3) n q.2.1 = _
        rw [up1_n _ _ (by omega)]; exact a3
      · show up1 (hX h) (hN h + 3) (fun _ => 0) q.2.1 = _
        rw [up1_n _ _ (by omega)]; exact a4
  · obtain ⟨a1, a2, a3, a4, a5⟩ := r6 a ha
    refine ⟨(up1_n _ _ (by omega)).trans a1, (up1_n _ _ (by omega)).trans a2, (up1_n _ _ (by omega)).trans a3, (up1_n _ _ (by omega)).trans a4, fun k => ⟨(a5 k).1, ?_⟩⟩
    show up2 (hR h) f 28 _ k a = _
    rw [up2_n _ _ (by omega)]; exact (a5 k).2
theorem RI.ints {i : Nat} {h0 h : aH} (r : RI i false h0 h) : RI i true h0 (sI (sI h 782 28 (-1)) 783 28 (-1)) := by
  obtain ⟨r1, r2, r3, r4, r5, r6⟩ := r
  refine ⟨r1, r2, r3, fun k h1 h2 => (hI_o _ _ h2).trans ((hI_o _ _ h1).trans (r4 k h1 h2)), fun _ => ⟨(hI_o _ _ (by decide)).trans (hI_s _ _ _ _), hI_s _ _ _ _⟩, fun a ha => ?_⟩
  obtain ⟨a1, a2, a3, a4, a5⟩ := r6 a ha
  exact ⟨a1, a2, a3, a4, fun k => ⟨(hI_a _ _ (by omega)).trans ((hI_a _ _ (by omega)).trans (a5 k).1), (a5 k).2⟩⟩
/-- the reference as it is made: rows of zeros, but for came -/
def R0 (h0 h : aH) : Prop := hN h = 63 ∧ Rf h ∧ (∀ t, t < 24 → hX h 29 t = -1) ∧ (∀ a, 30 ≤ a → a ≤ 65 → hX h a = fun _ => 0) ∧ (∀ k, k ≠ 782 → k ≠ 783 → hI h k 28 = 0) ∧ hI h 782 28 = -1 ∧ hI h 783 28 = -1 ∧ lwS h0 h
theorem RI.rf {h0 h : aH} (r : RI 37 true h0 h) : Rf h := by
  refine ⟨r.2.1, fun q hq => ?_⟩
  obtain ⟨j, hj⟩ := List.getElem?_of_mem hq
  have := r.2.2.1 j q (rfL_a hj).1 hj
  exact ⟨this.1, this.2.1, this.2.2.1⟩
theorem RI.z {h0 h : aH} (r : RI 37 true h0 h) {a : Nat} (h1 : 29 ≤ a) (h2 : a ≤ 65) : hX h a = fun _ => 0 := by
  have hl : a - 29 < rfL.length := by rw [rfL_len]; omega
  have hq := List.getElem?_eq_getElem hl
  have := (r.2.2.1 (a - 29) _ (by omega) hq).2.2.2
  rw [(rfL_a hq).2, show 29 + (a - 29) = a by omega] at this
  exact this
theorem ev_init_l (l : Launch) (G : aG) (h0 h : aH) (ri_ : RI 37 true h0 h) (ms : Nat) : ∀ k, 24 - k < ms → k ≤ 24 → ∀ h1, (hN h1 = 63 ∧ Rf h1 ∧ (∀ t, t < k → hX h1 29 t = -1) ∧ (∀ a, 30 ≤ a → a ≤ 65 → hX h1 a = fun _ => 0) ∧ (∀ k, k ≠ 782 → k ≠ 783 → hI h1 k 28 = 0) ∧ hI h1 782 28 = -1 ∧ hI h1 783 28 = -1 ∧ lwS h0 h1) → Ev l G 1 0 0 mX11_init 331 [.ref MO, .int (nI k)] [] h1 (fun x h' => x = none ∧ R0 h0 h') := by
  induction ms with
  | zero => intro k hk; omega
  | succ ms ih_ =>
    intro k hk1_ hk2_ h1 z_
    refine Ev_iload_n dX11_init_331 rfl ?_
    refine Ev_bipush (v := nI 24) dX11_init_332 (by decide) ?_
    refine Ev_icmp_geN 350 dX11_init_334 (by decide) (by omega) (by omega) (fun zb334_ => ?_) (fun zb334_ => ?_)
    · refine Ev_vret dX11_init_350 rfl ?_
      have ek_ : k = 24 := by omega
      subst ek_
      exact ⟨rfl, z_⟩
    · refine Ev_aload_n dX11_init_337 rfl (by first | exact Or.inr ⟨_, rfl⟩ | exact rv_or _ | exact Or.inl rfl) ?_
      refine Ev_getA dX11_init_338 fX11_7 z_.2.1.1 (rr_came z_.2.1) ?_
      refine Ev_iload_n dX11_init_341 rfl ?_
      refine Ev_iconst (v := -1) dX11_init_342 (by decide) ?_
      refine Ev_iastL _ dX11_init_343 (rk_came z_.2.1) (rl_came z_.2.1) (hi_n (by omega)) (by omega) ?_
      refine Ev_iincN 1 dX11_init_344 (by decide) (by decide) rfl ?_
      refine Ev_goto 331 dX11_init_347 (by decide) ?_
      refine ih_ (k + 1) (by omega) (by omega) _ ⟨z_.1, z_.2.1, fun t ht => ?_, fun a h1 h2 => (hX_o _ _ (by omega)).trans (z_.2.2.2.1 a h1 h2), z_.2.2.2.2.1, z_.2.2.2.2.2.1, z_.2.2.2.2.2.2.1, fun a ha => ?_⟩
      · by_cases e : t = k
        · subst e; exact hX_s _ _ _ _
        · exact (hX_n _ _ e).trans (z_.2.2.1 t (by omega))
      · obtain ⟨a1, a2, a3, a4, a5⟩ := z_.2.2.2.2.2.2.2 a ha
        exact ⟨a1, a2, (hX_o _ _ (by omega)).trans a3, a4, a5⟩
theorem ev_init (l : Launch) (G : aG) (h0 h : aH) (ri_ : RI 0 false h0 h) : Ev l G 1 37 111525 mX11_init 0 (en 2 [.ref MO]) [] h (fun x h' => x = none ∧ R0 h0 h') := by
  refine Ev_aload_n dX11_init_0 rfl (Or.inr ⟨_, rfl⟩) ?_
  refine Ev_objI dX11_init_1 (by omega) rfl (Nat.le_of_ble_eq_true rfl) kX11_1 ob_1 ob_2 ?_
  refine Ev_aload_n dX11_init_4 rfl (by first | exact Or.inr ⟨_, rfl⟩ | exact rv_or _ | exact Or.inl rfl) ?_
  refine Ev_bipush (v := nI 24) dX11_init_5 (by decide) ?_
  refine Ev.wide (mc' := 36 + 1) (ms' := 111501 + 24) (by decide) (by decide) ?_
  refine Ev_newa (kd := 13) 24 dX11_init_7 rfl (Or.inl rfl) ai_1 (by decide) (by decide) ?_
  refine Ev_putR (x := some (hN h + 3)) dX11_init_9 fX11_7 ⟨_, rfl, Or.inr ⟨rfl, rfl⟩⟩ ri_.k2 rfl ?_
  refine Ev_gen (RI 1 false h0) (ri_.step rfl) (fun h ri_ => ?_)
  refine Ev_aload_n dX11_init_12 rfl (by first | exact Or.inr ⟨_, rfl⟩ | exact rv_or _ | exact Or.inl rfl) ?_
  refine Ev_bipush (v := nI 24) dX11_init_13 (by decide) ?_
  refine Ev.wide (mc' := 35 + 1) (ms' := 111477 + 24) (by decide) (by decide) ?_
  refine Ev_newa (kd := 13) 24 dX11_init_15 rfl (Or.inl rfl) ai_1 (by decide) (by decide) ?_
  refine Ev_putR (x := some (hN h + 3)) dX11_init_17 fX11_13 ⟨_, rfl, Or.inr ⟨rfl, rfl⟩⟩ ri_.k2 rfl ?_
  refine Ev_gen (RI 2 false h0) (ri_.step rfl) (fun h ri_ => ?_)
  refine Ev_aload_n dX11_init_20 rfl (by first | exact Or.inr ⟨_, rfl⟩ | exact rv_or _ | exact Or.inl rfl) ?_
  refine Ev_bipush (v := nI 24) dX11_init_21 (by decide) ?_
  refine Ev.wide (mc' := 34 + 1) (ms' := 111453 + 24) (by decide) (by decide) ?_
  refine Ev_newa (kd := 13) 24 dX11_init_23 rfl (Or.inl rfl) ai_1 (by decide) (by decide) ?_
  refine Ev_putR (x := some (hN h + 3)) dX11_init_25 fX11_16 ⟨_, rfl, Or.inr ⟨rfl, rfl⟩⟩ ri_.k2 rfl ?_
  refine Ev_gen (RI 3 false h0) (ri_.step rfl) (fun h ri_ => ?_)
  refine Ev_aload_n dX11_init_28 rfl (by first | exact Or.inr ⟨_, rfl⟩ | exact rv_or _ | exact Or.inl rfl) ?_
  refine Ev_bipush (v := nI 24) dX11_init_29 (by decide) ?_
  refine Ev.wide (mc' := 33 + 1) (ms' := 111429 + 24) (by decide) (by decide) ?_
  refine Ev_newa (kd := 13) 24 dX11_init_31 rfl (Or.inl rfl) ai_1 (by decide) (by decide) ?_
  refine Ev_putR (x := some (hN h + 3)) dX11_init_33 fX11_19 ⟨_, rfl, Or.inr ⟨rfl, rfl⟩⟩ ri_.k2 rfl ?_
  refine Ev_gen (RI 4 false h0) (ri_.step rfl) (fun h ri_ => ?_)
  refine Ev_aload_n dX11_init_36 rfl (by first | exact Or.inr ⟨_, rfl⟩ | exact rv_or _ | exact Or.inl rfl) ?_
  refine Ev_bipush (v := nI 96) dX11_init_37 (by decide) ?_
  refine Ev.wide (mc' := 32 + 1) (ms' := 111333 + 96) (by decide) (by decide) ?_
  refine Ev_newa (kd := 13) 96 dX11_init_39 rfl (Or.inl rfl) ai_1 (by decide) (by decide) ?_
  refine Ev_putR (x := some (hN h + 3)) dX11_init_41 fX11_22 ⟨_, rfl, Or.inr ⟨rfl, rfl⟩⟩ ri_.k2 rfl ?_
  refine Ev_gen (RI 5 false h0) (ri_.step rfl) (fun h ri_ => ?_)
  refine Ev_aload_n dX11_init_44 rfl (by first | exact Or.inr ⟨_, rfl⟩ | exact rv_or _ | exact Or.inl rfl) ?_
  refine Ev_sipush (v := nI 144) dX11_init_45 (by decide) ?_
  refine Ev.wide (mc' := 31 + 1) (ms' := 111189 + 144) (by decide) (by decide) ?_
  refine Ev_newa (kd := 13) 144 dX11_init_48 rfl (Or.inl rfl) ai_1 (by decide) (by decide) ?_
  refine Ev_putR (x := some (hN h + 3)) dX11_init_50 fX11_25 ⟨_, rfl, Or.inr ⟨rfl, rfl⟩⟩ ri_.k2 rfl ?_
  refine Ev_gen (RI 6 false h0) (ri_.step rfl) (fun h ri_ => ?_)
  refine Ev_aload_n dX11_init_53 rfl (by first | exact Or.inr ⟨_, rfl⟩ | exact rv_or _ | exact Or.inl rfl) ?_
  refine Ev_bipush (v := nI 24) dX11_init_54 (by decide) ?_
  refine Ev.wide (mc' := 30 + 1) (ms' := 111165 + 24) (by decide) (by decide) ?_
  refine Ev_newa (kd := 13) 24 dX11_init_56 rfl (Or.inl rfl) ai_1 (by decide) (by decide) ?_
  refine Ev_putR (x := some (hN h + 3)) dX11_init_58 fX11_28 ⟨_, rfl, Or.inr ⟨rfl, rfl⟩⟩ ri_.k2 rfl ?_
  refine Ev_gen (RI 7 false h0) (ri_.step rfl) (fun h ri_ => ?_)
  refine Ev_aload_n dX11_init_61 rfl (by first | exact Or.inr ⟨_, rfl⟩ | exact rv_or _ | exact Or.inl rfl) ?_
  refine Ev_bipush (v := nI 9) dX11_init_62 (by decide) ?_
  refine Ev.wide (mc' := 29 + 1) (ms' := 111156 + 9) (by decide) (by decide) ?_
  refine Ev_newa (kd := 13) 9 dX11_init_64 rfl (Or.inl rfl) ai_1 (by decide) (by decide) ?_
  refine Ev_putR (x := some (hN h + 3)) dX11_init_66 fX11_31 ⟨_, rfl, Or.inr ⟨rfl, rfl⟩⟩ ri_.k2 rfl ?_
  refine Ev_gen (RI 8 false h0) (ri_.step rfl) (fun h ri_ => ?_)
  refine Ev_aload_n dX11_init_69 rfl (by first | exact Or.inr ⟨_, rfl⟩ | exact rv_or _ | exact Or.inl rfl) ?_
  refine Ev_sipush (v := nI 180) dX11_init_70 (by decide) ?_
  refine Ev.wide (mc' := 28 + 1) (ms' := 110976 + 180) (by decide) (by decide) ?_
  refine Ev_newa (kd := 13) 180 dX11_init_73 rfl (Or.inl rfl) ai_1 (by decide) (by decide) ?_
  refine Ev_putR (x := some (hN h + 3)) dX11_init_75 fX11_34 ⟨_, rfl, Or.inr ⟨rfl, rfl⟩⟩ ri_.k2 rfl ?_
  refine Ev_gen (RI 9 false h0) (ri_.step rfl) (fun h ri_ => ?_)
  refine Ev_aload_n dX11_init_78 rfl (by first | exact Or.inr ⟨_, rfl⟩ | exact rv_or _ | exact Or.inl rfl) ?_
  refine Ev_sipush (v := nI 180) dX11_init_79 (by decide) ?_
  refine Ev.wide (mc' := 27 + 1) (ms' := 110796 + 180) (by decide) (by decide) ?_
  refine Ev_newa (kd := 13) 180 dX11_init_82 rfl (Or.inl rfl) ai_1 (by decide) (by decide) ?_
  refine Ev_putR (x := some (hN h + 3)) dX11_init_84 fX11_37 ⟨_, rfl, Or.inr ⟨rfl, rfl⟩⟩ ri_.k2 rfl ?_
  refine Ev_gen (RI 10 false h0) (ri_.step rfl) (fun h ri_ => ?_)
  refine Ev_aload_n dX11_init_87 rfl (by first | exact Or.inr ⟨_, rfl⟩ | exact rv_or _ | exact Or.inl rfl) ?_
  refine Ev_sipush (v := nI 180) dX11_init_88 (by decide) ?_
  refine Ev.wide (mc' := 26 + 1) (ms' := 110616 + 180) (by decide) (by decide) ?_
  refine Ev_newa (kd := 13) 180 dX11_init_91 rfl (Or.inl rfl) ai_1 (by decide) (by decide) ?_
  refine Ev_putR (x := some (hN h + 3)) dX11_init_93 fX11_40 ⟨_, rfl, Or.inr ⟨rfl, rfl⟩⟩ ri_.k2 rfl ?_
  refine Ev_gen (RI 11 false h0) (ri_.step rfl) (fun h ri_ => ?_)
  refine Ev_aload_n dX11_init_96 rfl (by first | exact Or.inr ⟨_, rfl⟩ | exact rv_or _ | exact Or.inl rfl) ?_
  refine Ev_sipush (v := nI 1080) dX11_init_97 (by decide) ?_
  refine Ev.wide (mc' := 25 + 1) (ms' := 109536 + 1080) (by decide) (by decide) ?_
  refine Ev_newa (kd := 13) 1080 dX11_init_100 rfl (Or.inl rfl) ai_1 (by decide) (by decide) ?_
  refine Ev_putR (x := some (hN h + 3)) dX11_init_102 fX11_43 ⟨_, rfl, Or.inr ⟨rfl, rfl⟩⟩ ri_.k2 rfl ?_
  refine Ev_gen (RI 12 false h0) (ri_.step rfl) (fun h ri_ => ?_)
  refine Ev_aload_n dX11_init_105 rfl (by first | exact Or.inr ⟨_, rfl⟩ | exact rv_or _ | exact Or.inl rfl) ?_
  refine Ev_iconst (v := -1) dX11_init_106 (by decide) ?_
  refine Ev_putI dX11_init_107 fX11_46 ⟨_, rfl, Or.inl rfl⟩ (Or.inl rfl) ri_.2.1 ?_
  refine Ev_aload_n dX11_init_110 rfl (by first | exact Or.inr ⟨_, rfl⟩ | exact rv_or _ | exact Or.inl rfl) ?_
  refine Ev_iconst (v := -1) dX11_init_111 (by decide) ?_
  refine Ev_putI dX11_init_112 fX11_50 ⟨_, rfl, Or.inl rfl⟩ (Or.inl rfl) ri_.2.1 ?_
  refine Ev_gen (RI 12 true h0) ri_.ints (fun h ri_ => ?_)
  refine Ev_aload_n dX11_init_115 rfl (by first | exact Or.inr ⟨_, rfl⟩ | exact rv_or _ | exact Or.inl rfl) ?_
  refine Ev_bipush (v := nI 120) dX11_init_116 (by decide) ?_
  refine Ev.wide (mc' := 24 + 1) (ms' := 109416 + 120) (by decide) (by decide) ?_
  refine Ev_newa (kd := 13) 120 dX11_init_118 rfl (Or.inl rfl) ai_1 (by decide) (by decide) ?_
  refine Ev_putR (x := some (hN h + 3)) dX11_init_120 fX11_53 ⟨_, rfl, Or.inr ⟨rfl, rfl⟩⟩ ri_.k2 rfl ?_
  refine Ev_gen (RI 13 true h0) (ri_.step rfl) (fun h ri_ => ?_)
  refine Ev_aload_n dX11_init_123 rfl (by first | exact Or.inr ⟨_, rfl⟩ | exact rv_or _ | exact Or.inl rfl) ?_
  refine Ev_iconst (v := nI 2) dX11_init_124 (by decide) ?_
  refine Ev.wide (mc' := 23 + 1) (ms' := 109414 + 2) (by decide) (by decide) ?_
  refine Ev_newa (kd := 13) 2 dX11_init_125 rfl (Or.inl rfl) ai_1 (by decide) (by decide) ?_
  refine Ev_putR (x := some (hN h + 3)) dX11_init_127 fX11_56 ⟨_, rfl, Or.inr ⟨rfl, rfl⟩⟩ ri_.k2 rfl ?_
  refine Ev_gen (RI 14 true h0) (ri_.step rfl) (fun h ri_ => ?_)
  refine Ev_aload_n dX11_init_130 rfl (by first | exact Or.inr ⟨_, rfl⟩ | exact rv_or _ | exact Or.inl rfl) ?_
  refine Ev_sipush (v := nI 500) dX11_init_131 (by decide) ?_
  refine Ev.wide (mc' := 22 + 1) (ms' := 108914 + 500) (by decide) (by decide) ?_
  refine Ev_newa (kd := 13) 500 dX11_init_134 rfl (Or.inl rfl) ai_1 (by decide) (by decide) ?_
  refine Ev_putR (x := some (hN h + 3)) dX11_init_136 fX11_59 ⟨_, rfl, Or.inr ⟨rfl, rfl⟩⟩ ri_.k2 rfl ?_
  refine Ev_gen (RI 15 true h0) (ri_.step rfl) (fun h ri_ => ?_)
  refine Ev_aload_n dX11_init_139 rfl (by first | exact Or.inr ⟨_, rfl⟩ | exact rv_or _ | exact Or.inl rfl) ?_
  refine Ev_sipush (v := nI 500) dX11_init_140 (by decide) ?_
  refine Ev.wide (mc' := 21 + 1) (ms' := 108414 + 500) (by decide) (by decide) ?_
  refine Ev_newa (kd := 13) 500 dX11_init_143 rfl (Or.inl rfl) ai_1 (by decide) (by decide) ?_
  refine Ev_putR (x := some (hN h + 3)) dX11_init_145 fX11_62 ⟨_, rfl, Or.inr ⟨rfl, rfl⟩⟩ ri_.k2 rfl ?_
  refine Ev_gen (RI 16 true h0) (ri_.step rfl) (fun h ri_ => ?_)
  refine Ev_aload_n dX11_init_148 rfl (by first | exact Or.inr ⟨_, rfl⟩ | exact rv_or _ | exact Or.inl rfl) ?_
  refine Ev_sipush (v := nI 500) dX11_init_149 (by decide) ?_
  refine Ev.wide (mc' := 20 + 1) (ms' := 107914 + 500) (by decide) (by decide) ?_
  refine Ev_newa (kd := 13) 500 dX11_init_152 rfl (Or.inl rfl) ai_1 (by decide) (by decide) ?_
  refine Ev_putR (x := some (hN h + 3)) dX11_init_154 fX11_65 ⟨_, rfl, Or.inr ⟨rfl, rfl⟩⟩ ri_.k2 rfl ?_
  refine Ev_gen (RI 17 true h0) (ri_.step rfl) (fun h ri_ => ?_)
  refine Ev_aload_n dX11_init_157 rfl (by first | exact Or.inr ⟨_, rfl⟩ | exact rv_or _ | exact Or.inl rfl) ?_
  refine Ev_sipush (v := nI 500) dX11_init_158 (by decide) ?_
  refine Ev.wide (mc' := 19 + 1) (ms' := 107414 + 500) (by decide) (by decide) ?_
  refine Ev_newa (kd := 13) 500 dX11_init_161 rfl (Or.inl rfl) ai_1 (by decide) (by decide) ?_
  refine Ev_putR (x := some (hN h + 3)) dX11_init_163 fX11_68 ⟨_, rfl, Or.inr ⟨rfl, rfl⟩⟩ ri_.k2 rfl ?_
  refine Ev_gen (RI 18 true h0) (ri_.step rfl) (fun h ri_ => ?_)
  refine Ev_aload_n dX11_init_166 rfl (by first | exact Or.inr ⟨_, rfl⟩ | exact rv_or _ | exact Or.inl rfl) ?_
  refine Ev_sipush (v := nI 500) dX11_init_167 (by decide) ?_
  refine Ev.wide (mc' := 18 + 1) (ms' := 106914 + 500) (by decide) (by decide) ?_
  refine Ev_newa (kd := 13) 500 dX11_init_170 rfl (Or.inl rfl) ai_1 (by decide) (by decide) ?_
  refine Ev_putR (x := some (hN h + 3)) dX11_init_172 fX11_71 ⟨_, rfl, Or.inr ⟨rfl, rfl⟩⟩ ri_.k2 rfl ?_
  refine Ev_gen (RI 19 true h0) (ri_.step rfl) (fun h ri_ => ?_)
  refine Ev_aload_n dX11_init_175 rfl (by first | exact Or.inr ⟨_, rfl⟩ | exact rv_or _ | exact Or.inl rfl) ?_
  refine Ev_sipush (v := nI 6000) dX11_init_176 (by decide) ?_
  refine Ev.wide (mc' := 17 + 1) (ms' := 100914 + 6000) (by decide) (by decide) ?_
  refine Ev_newa (kd := 13) 6000 dX11_init_179 rfl (Or.inl rfl) ai_1 (by decide) (by decide) ?_
  refine Ev_putR (x := some (hN h + 3)) dX11_init_181 fX11_74 ⟨_, rfl, Or.inr ⟨rfl, rfl⟩⟩ ri_.k2 rfl ?_
  refine Ev_gen (RI 20 true h0) (ri_.step rfl) (fun h ri_ => ?_)
  refine Ev_aload_n dX11_init_184 rfl (by first | exact Or.inr ⟨_, rfl⟩ | exact rv_or _ | exact Or.inl rfl) ?_
  refine Ev_sipush (v := nI 500) dX11_init_185 (by decide) ?_
  refine Ev.wide (mc' := 16 + 1) (ms' := 100414 + 500) (by decide) (by decide) ?_
  refine Ev_newa (kd := 13) 500 dX11_init_188 rfl (Or.inl rfl) ai_1 (by decide) (by decide) ?_
  refine Ev_putR (x := some (hN h + 3)) dX11_init_190 fX11_77 ⟨_, rfl, Or.inr ⟨rfl, rfl⟩⟩ ri_.k2 rfl ?_
  refine Ev_gen (RI 21 true h0) (ri_.step rfl) (fun h ri_ => ?_)
  refine Ev_aload_n dX11_init_193 rfl (by first | exact Or.inr ⟨_, rfl⟩ | exact rv_or _ | exact Or.inl rfl) ?_
  refine Ev_sipush (v := nI 500) dX11_init_194 (by decide) ?_
  refine Ev.wide (mc' := 15 + 1) (ms' := 99914 + 500) (by decide) (by decide) ?_
  refine Ev_newa (kd := 13) 500 dX11_init_197 rfl (Or.inl rfl) ai_1 (by decide) (by decide) ?_
  refine Ev_putR (x := some (hN h + 3)) dX11_init_199 fX11_80 ⟨_, rfl, Or.inr ⟨rfl, rfl⟩⟩ ri_.k2 rfl ?_
  refine Ev_gen (RI 22 true h0) (ri_.step rfl) (fun h ri_ => ?_)
  refine Ev_aload_n dX11_init_202 rfl (by first | exact Or.inr ⟨_, rfl⟩ | exact rv_or _ | exact Or.inl rfl) ?_
  refine Ev_sipush (v := nI 500) dX11_init_203 (by decide) ?_
  refine Ev.wide (mc' := 14 + 1) (ms' := 99414 + 500) (by decide) (by decide) ?_
  refine Ev_newa (kd := 13) 500 dX11_init_206 rfl (Or.inl rfl) ai_1 (by decide) (by decide) ?_
  refine Ev_putR (x := some (hN h + 3)) dX11_init_208 fX11_83 ⟨_, rfl, Or.inr ⟨rfl, rfl⟩⟩ ri_.k2 rfl ?_
  refine Ev_gen (RI 23 true h0) (ri_.step rfl) (fun h ri_ => ?_)
  refine Ev_aload_n dX11_init_211 rfl (by first | exact Or.inr ⟨_, rfl⟩ | exact rv_or _ | exact Or.inl rfl) ?_
  refine Ev_sipush (v := nI 6000) dX11_init_212 (by decide) ?_
  refine Ev.wide (mc' := 13 + 1) (ms' := 93414 + 6000) (by decide) (by decide) ?_
  refine Ev_newa (kd := 13) 6000 dX11_init_215 rfl (Or.inl rfl) ai_1 (by decide) (by decide) ?_
  refine Ev_putR (x := some (hN h + 3)) dX11_init_217 fX11_86 ⟨_, rfl, Or.inr ⟨rfl, rfl⟩⟩ ri_.k2 rfl ?_
  refine Ev_gen (RI 24 true h0) (ri_.step rfl) (fun h ri_ => ?_)
  refine Ev_aload_n dX11_init_220 rfl (by first | exact Or.inr ⟨_, rfl⟩ | exact rv_or _ | exact Or.inl rfl) ?_
  refine Ev_sipush (v := nI 500) dX11_init_221 (by decide) ?_
  refine Ev.wide (mc' := 12 + 1) (ms' := 92914 + 500) (by decide) (by decide) ?_
  refine Ev_newa (kd := 13) 500 dX11_init_224 rfl (Or.inl rfl) ai_1 (by decide) (by decide) ?_
  refine Ev_putR (x := some (hN h + 3)) dX11_init_226 fX11_89 ⟨_, rfl, Or.inr ⟨rfl, rfl⟩⟩ ri_.k2 rfl ?_
  refine Ev_gen (RI 25 true h0) (ri_.step rfl) (fun h ri_ => ?_)
  refine Ev_aload_n dX11_init_229 rfl (by first | exact Or.inr ⟨_, rfl⟩ | exact rv_or _ | exact Or.inl rfl) ?_
  refine Ev_sipush (v := nI 30000) dX11_init_230 (by decide) ?_
  refine Ev.wide (mc' := 11 + 1) (ms' := 62914 + 30000) (by decide) (by decide) ?_
  refine Ev_newa (kd := 13) 30000 dX11_init_233 rfl (Or.inl rfl) ai_1 (by decide) (by decide) ?_
  refine Ev_putR (x := some (hN h + 3)) dX11_init_235 fX11_92 ⟨_, rfl, Or.inr ⟨rfl, rfl⟩⟩ ri_.k2 rfl ?_
  refine Ev_gen (RI 26 true h0) (ri_.step rfl) (fun h ri_ => ?_)
  refine Ev_aload_n dX11_init_238 rfl (by first | exact Or.inr ⟨_, rfl⟩ | exact rv_or _ | exact Or.inl rfl) ?_
  refine Ev_sipush (v := nI 500) dX11_init_239 (by decide) ?_
  refine Ev.wide (mc' := 10 + 1) (ms' := 62414 + 500) (by decide) (by decide) ?_
  refine Ev_newa (kd := 13) 500 dX11_init_242 rfl (Or.inl rfl) ai_1 (by decide) (by decide) ?_
  refine Ev_putR (x := some (hN h + 3)) dX11_init_244 fX11_95 ⟨_, rfl, Or.inr ⟨rfl, rfl⟩⟩ ri_.k2 rfl ?_
  refine Ev_gen (RI 27 true h0) (ri_.step rfl) (fun h ri_ => ?_)
  refine Ev_aload_n dX11_init_247 rfl (by first | exact Or.inr ⟨_, rfl⟩ | exact rv_or _ | exact Or.inl rfl) ?_
  refine Ev_ldc (v := 60000) dX11_init_248 cX11_98 ?_
  refine Ev_top (y := .int (nI 60000)) (by decide) ?_
  refine Ev.wide (mc' := 9 + 1) (ms' := 2414 + 60000) (by decide) (by decide) ?_
  refine Ev_newa (kd := 13) 60000 dX11_init_250 rfl (Or.inl rfl) ai_1 (by decide) (by decide) ?_
  refine Ev_putR (x := some (hN h + 3)) dX11_init_252 fX11_99 ⟨_, rfl, Or.inr ⟨rfl, rfl⟩⟩ ri_.k2 rfl ?_
  refine Ev_gen (RI 28 true h0) (ri_.step rfl) (fun h ri_ => ?_)
  refine Ev_aload_n dX11_init_255 rfl (by first | exact Or.inr ⟨_, rfl⟩ | exact rv_or _ | exact Or.inl rfl) ?_
  refine Ev_sipush (v := nI 500) dX11_init_256 (by decide) ?_
  refine Ev.wide (mc' := 8 + 1) (ms' := 1914 + 500) (by decide) (by decide) ?_
  refine Ev_newa (kd := 14) 500 dX11_init_259 rfl (Or.inr rfl) ai_2 (by decide) (by decide) ?_
  refine Ev_putR (x := some (hN h + 3)) dX11_init_261 fX11_102 ⟨_, rfl, Or.inr ⟨rfl, rfl⟩⟩ ri_.k2 rfl ?_
  refine Ev_gen (RI 29 true h0) (ri_.step rfl) (fun h ri_ => ?_)
  refine Ev_aload_n dX11_init_264 rfl (by first | exact Or.inr ⟨_, rfl⟩ | exact rv_or _ | exact Or.inl rfl) ?_
  refine Ev_bipush (v := nI 6) dX11_init_265 (by decide) ?_
  refine Ev.wide (mc' := 7 + 1) (ms' := 1908 + 6) (by decide) (by decide) ?_
  refine Ev_newa (kd := 13) 6 dX11_init_267 rfl (Or.inl rfl) ai_1 (by decide) (by decide) ?_
  refine Ev_putR (x := some (hN h + 3)) dX11_init_269 fX11_106 ⟨_, rfl, Or.inr ⟨rfl, rfl⟩⟩ ri_.k2 rfl ?_
  refine Ev_gen (RI 30 true h0) (ri_.step rfl) (fun h ri_ => ?_)
  refine Ev_aload_n dX11_init_272 rfl (by first | exact Or.inr ⟨_, rfl⟩ | exact rv_or _ | exact Or.inl rfl) ?_
  refine Ev_bipush (v := nI 6) dX11_init_273 (by decide) ?_
  refine Ev.wide (mc' := 6 + 1) (ms' := 1902 + 6) (by decide) (by decide) ?_
  refine Ev_newa (kd := 13) 6 dX11_init_275 rfl (Or.inl rfl) ai_1 (by decide) (by decide) ?_
  refine Ev_putR (x := some (hN h + 3)) dX11_init_277 fX11_109 ⟨_, rfl, Or.inr ⟨rfl, rfl⟩⟩ ri_.k2 rfl ?_
  refine Ev_gen (RI 31 true h0) (ri_.step rfl) (fun h ri_ => ?_)
  refine Ev_aload_n dX11_init_280 rfl (by first | exact Or.inr ⟨_, rfl⟩ | exact rv_or _ | exact Or.inl rfl) ?_
  refine Ev_bipush (v := nI 6) dX11_init_281 (by decide) ?_
  refine Ev.wide (mc' := 5 + 1) (ms' := 1896 + 6) (by decide) (by decide) ?_
  refine Ev_newa (kd := 13) 6 dX11_init_283 rfl (Or.inl rfl) ai_1 (by decide) (by decide) ?_
  refine Ev_putR (x := some (hN h + 3)) dX11_init_285 fX11_112 ⟨_, rfl, Or.inr ⟨rfl, rfl⟩⟩ ri_.k2 rfl ?_
  refine Ev_gen (RI 32 true h0) (ri_.step rfl) (fun h ri_ => ?_)
  refine Ev_aload_n dX11_init_288 rfl (by first | exact Or.inr ⟨_, rfl⟩ | exact rv_or _ | exact Or.inl rfl) ?_
  refine Ev_bipush (v := nI 6) dX11_init_289 (by decide) ?_
  refine Ev.wide (mc' := 4 + 1) (ms' := 1890 + 6) (by decide) (by decide) ?_
  refine Ev_newa (kd := 14) 6 dX11_init_291 rfl (Or.inr rfl) ai_2 (by decide) (by decide) ?_
  refine Ev_putR (x := some (hN h + 3)) dX11_init_293 fX11_115 ⟨_, rfl, Or.inr ⟨rfl, rfl⟩⟩ ri_.k2 rfl ?_
  refine Ev_gen (RI 33 true h0) (ri_.step rfl) (fun h ri_ => ?_)
  refine Ev_aload_n dX11_init_296 rfl (by first | exact Or.inr ⟨_, rfl⟩ | exact rv_or _ | exact Or.inl rfl) ?_
  refine Ev_bipush (v := nI 30) dX11_init_297 (by decide) ?_
  refine Ev.wide (mc' := 3 + 1) (ms' := 1860 + 30) (by decide) (by decide) ?_
  refine Ev_newa (kd := 13) 30 dX11_init_299 rfl (Or.inl rfl) ai_1 (by decide) (by decide) ?_
  refine Ev_putR (x := some (hN h + 3)) dX11_init_301 fX11_118 ⟨_, rfl, Or.inr ⟨rfl, rfl⟩⟩ ri_.k2 rfl ?_
  refine Ev_gen (RI 34 true h0) (ri_.step rfl) (fun h ri_ => ?_)
  refine Ev_aload_n dX11_init_304 rfl (by first | exact Or.inr ⟨_, rfl⟩ | exact rv_or _ | exact Or.inl rfl) ?_
  refine Ev_bipush (v := nI 30) dX11_init_305 (by decide) ?_
  refine Ev.wide (mc' := 2 + 1) (ms' := 1830 + 30) (by decide) (by decide) ?_
  refine Ev_newa (kd := 13) 30 dX11_init_307 rfl (Or.inl rfl) ai_1 (by decide) (by decide) ?_
  refine Ev_putR (x := some (hN h + 3)) dX11_init_309 fX11_121 ⟨_, rfl, Or.inr ⟨rfl, rfl⟩⟩ ri_.k2 rfl ?_
  refine Ev_gen (RI 35 true h0) (ri_.step rfl) (fun h ri_ => ?_)
  refine Ev_aload_n dX11_init_312 rfl (by first | exact Or.inr ⟨_, rfl⟩ | exact rv_or _ | exact Or.inl rfl) ?_
  refine Ev_bipush (v := nI 30) dX11_init_313 (by decide) ?_
  refine Ev.wide (mc' := 1 + 1) (ms' := 1800 + 30) (by decide) (by decide) ?_
  refine Ev_newa (kd := 13) 30 dX11_init_315 rfl (Or.inl rfl) ai_1 (by decide) (by decide) ?_
  refine Ev_putR (x := some (hN h + 3)) dX11_init_317 fX11_124 ⟨_, rfl, Or.inr ⟨rfl, rfl⟩⟩ ri_.k2 rfl ?_
  refine Ev_gen (RI 36 true h0) (ri_.step rfl) (fun h ri_ => ?_)
  refine Ev_aload_n dX11_init_320 rfl (by first | exact Or.inr ⟨_, rfl⟩ | exact rv_or _ | exact Or.inl rfl) ?_
  refine Ev_sipush (v := nI 1800) dX11_init_321 (by decide) ?_
  refine Ev.wide (mc' := 0 + 1) (ms' := 0 + 1800) (by decide) (by decide) ?_
  refine Ev_newa (kd := 13) 1800 dX11_init_324 rfl (Or.inl rfl) ai_1 (by decide) (by decide) ?_
  refine Ev_putR (x := some (hN h + 3)) dX11_init_326 fX11_127 ⟨_, rfl, Or.inr ⟨rfl, rfl⟩⟩ ri_.k2 rfl ?_
  refine Ev_gen (RI 37 true h0) (ri_.step rfl) (fun h ri_ => ?_)
  refine Ev_iconst (v := nI 0) dX11_init_329 (by decide) ?_
  refine Ev_istore_n dX11_init_330 (by decide) ?_
  refine ev_init_l l G h0 h ri_ 25 0 (by omega) (by omega) h ⟨ri_.1, ri_.rf, fun t ht => by omega, fun a h1 h2 => ri_.z (by omega) h2, ri_.2.2.2.1, (ri_.2.2.2.2.1 rfl).1, (ri_.2.2.2.2.1 rfl).2, ri_.2.2.2.2.2⟩
