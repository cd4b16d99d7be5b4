section EV
variable {l : Launch} {G : aG} {d mc ms : Nat} {M : aM} {pc : Nat} {ls st : List Value} {h : aH} {Q : Option Value → aH → Prop}
theorem Ev_acmp_neS {a : Nat} {off : Int} (tgt : Nat) (hdg : decode M.2.1 pc = .ok (.if_acmp .ne off, 3)) (ht : (pc : Int) + off = (tgt : Int)) (kk : Ev l G d mc ms M (pc + 3) ls st h Q) : Ev l G d mc ms M pc ls (.ref a :: .ref a :: st) h Q := by
  intro p e R s m args below meth c H locs cells slots lv C a1 a2 a3 a4 hP hS hl
  exact lv_acmp_ne (rx := some (ad G a)) (ry := some (ad G a)) C.1 C.2.1 hdg ht (fun z => absurd rfl z) (fun _ => kk p e R s m args below meth c H locs cells slots lv C a1 a2 a3 a4 hP hS hl)
theorem Ev_acmp_eqS {a : Nat} {off : Int} (tgt : Nat) (hdg : decode M.2.1 pc = .ok (.if_acmp .eq off, 3)) (ht : (pc : Int) + off = (tgt : Int)) (kk : Ev l G d mc ms M tgt ls st h Q) : Ev l G d mc ms M pc ls (.ref a :: .ref a :: st) h Q := by
  intro p e R s m args below meth c H locs cells slots lv C a1 a2 a3 a4 hP hS hl
  exact lv_acmp_eq (rx := some (ad G a)) (ry := some (ad G a)) C.1 C.2.1 hdg ht (fun _ => kk p e R s m args below meth c H locs cells slots lv C a1 a2 a3 a4 hP hS hl) (fun z => absurd rfl z)
end EV
theorem gc_1 : Cond.declares ⟨"java/lang/Object", "getClass", "()Ljava/lang/Class;"⟩ ∈ lw_tbl := by decide +kernel
theorem gc_2 : Cond.selects "[Ljava/lang/Object;" ⟨"java/lang/Object", "getClass", "()Ljava/lang/Class;"⟩ ⟨"java/lang/Object", "getClass", "()Ljava/lang/Class;"⟩ ∈ aTs := by decide +kernel
theorem gc_3 : Cond.instanceMethod ⟨"java/lang/Object", "getClass", "()Ljava/lang/Class;"⟩ ∈ aTs := by decide +kernel
theorem gc_4 : Cond.native ⟨"java/lang/Object", "getClass", "()Ljava/lang/Class;"⟩ ∈ aTs := by decide +kernel
/-- may objects of this kind stand in a list? -/
def lkd (ci : Nat) : Prop := ∃ r : vw_C, vwCl[ci]? = some r ∧ Cond.castable r.1 "java/lang/Object" ∈ lw_tbl
theorem lkd_2 : lkd 2 := ⟨_, rfl, cb_X1⟩
theorem lkd_10 : lkd 10 := ⟨_, rfl, cb_X9⟩
/-- the heap behind a copy of a row of references into a new, longer one -/
def hCp (h : aH) (e n k : Nat) : aH := sYs (nA h 15 n) (hN h + 3) (va_cpy (hY h e) (fun _ => none) 0 0 k)
theorem min_n {k n : Nat} (hk : k ≤ n) (hn : n ≤ 1000) : (if nI n < nI k then nI n else nI k) = nI k := by
  rw [if_neg (nI_nlt hk (by omega))]
theorem ej_copy3 (l : Launch) (G : aG) (e n k ci : Nat) (h : aH) (hk : hK h e = 15) (hl : hL h e = k) (hkn : k ≤ n) (hn : n ≤ 1000) (hci : lkd ci) (hel : ∀ i y, i < k → hY h e i = some y → hK h y = ci) : Ev l G 1 1 n mJ7_copyOf_6403c 0 (en 4 [.ref e, .int (nI n), .ref 2]) [] h (Ex (some (.ref (hN h + 3))) (hCp h e n k)) := by
  obtain ⟨r, hr1, hr2⟩ := hci
  refine Ev_hv (fun hv => ?_)
  have hne : e ≠ hN h + 3 := hv.ne (by rw [hk]; decide)
  have hk2 : hK (nA h 15 n) e = 15 := (up1_n _ _ hne).trans hk
  have hl2 : hL (nA h 15 n) e = k := (up1_n _ _ hne).trans hl
  have hy2 : hY (nA h 15 n) e = hY h e := up1_n _ _ hne
  have hk3 : hK (nA h 15 n) (hN h + 3) = 15 := up1_s _ _ _
  have hl3 : hL (nA h 15 n) (hN h + 3) = n := up1_s _ _ _
  have hy3 : hY (nA h 15 n) (hN h + 3) = fun _ => none := up1_s _ _ _
  refine Ev_aload_n dJ7_copyOf_6403c_0 rfl (Or.inr ⟨_, rfl⟩) ?_
  refine Ev_mirror dJ7_copyOf_6403c_1 qJ7_110 ?_
  refine Ev_acmp_neS 13 dJ7_copyOf_6403c_3 (by decide) ?_
  refine Ev_iload_n dJ7_copyOf_6403c_6 rfl ?_
  refine Ev.wide (mc' := 0 + 1) (ms' := 0 + n) (by omega) (by omega) ?_
  refine Ev_newq (kd := 15) n dJ7_copyOf_6403c_7 rfl (by omega) (by omega) qJ7_2 ao_java_lang_Object (hi_n (by omega)) (by omega) ?_
  refine Ev_goto 24 dJ7_copyOf_6403c_10 (by decide) ?_
  refine Ev_astore_n dJ7_copyOf_6403c_24 (by decide) (Or.inr ⟨_, rfl⟩) ?_
  refine Ev_aload_n dJ7_copyOf_6403c_25 rfl (Or.inr ⟨_, rfl⟩) ?_
  refine Ev_iconst (v := nI 0) dJ7_copyOf_6403c_26 (by decide) ?_
  refine Ev_aload_n dJ7_copyOf_6403c_27 rfl (Or.inr ⟨_, rfl⟩) ?_
  refine Ev_iconst (v := nI 0) dJ7_copyOf_6403c_28 (by decide) ?_
  refine Ev_aload_n dJ7_copyOf_6403c_29 rfl (Or.inr ⟨_, rfl⟩) ?_
  refine Ev_alen dJ7_copyOf_6403c_30 hk2 (by omega) (by omega) ?_
  rw [hl2]
  refine Ev_iload_n dJ7_copyOf_6403c_31 rfl ?_
  refine Ev_mmin dJ7_copyOf_6403c_32 (by omega) rfl (Nat.le_of_ble_eq_true rfl) kJ7_304 ?_
  rw [min_n hkn hn]
  refine Ev_copyQ 0 0 k dJ7_copyOf_6403c_35 (by omega) rfl (Nat.le_of_ble_eq_true rfl) hk2 hk3 kJ7_150 ac_1 ac_2 ac_3 hr1 hr2 t0 t0 (hi_n (by omega)) (by rw [hl2]; omega) (by rw [hl3]; omega) (fun i hi y hy => ?_) ?_
  · rw [hy2, Nat.zero_add] at hy
    have h1 := hel i y hi hy
    refine (up1_n _ _ (hv.ne ?_)).trans h1
    rw [h1]
    have := vw_lt hr1
    omega
  · rw [hy2, hy3]
    refine Ev_aload_n dJ7_copyOf_6403c_38 rfl (Or.inr ⟨_, rfl⟩) ?_
    refine Ev_aret dJ7_copyOf_6403c_39 rfl (Or.inr ⟨_, rfl⟩) (Or.inr ⟨_, rfl⟩) ?_
    exact ⟨rfl, rfl⟩
theorem ej_copy2 (l : Launch) (G : aG) (e n k ci : Nat) (h : aH) (hk : hK h e = 15) (hl : hL h e = k) (hkn : k ≤ n) (hn : n ≤ 1000) (hci : lkd ci) (hel : ∀ i y, i < k → hY h e i = some y → hK h y = ci) : Ev l G 2 1 n mJ7_copyOf_1904c 0 (en 2 [.ref e, .int (nI n)]) [] h (Ex (some (.ref (hN h + 3))) (hCp h e n k)) := by
  refine Ev_aload_n dJ7_copyOf_1904c_0 rfl (Or.inr ⟨_, rfl⟩) ?_
  refine Ev_iload_n dJ7_copyOf_1904c_1 rfl ?_
  refine Ev_aload_n dJ7_copyOf_1904c_2 rfl (Or.inr ⟨_, rfl⟩) ?_
  refine Ev_getC dJ7_copyOf_1904c_3 (by omega) rfl (Nat.le_of_ble_eq_true rfl) hk kJ7_86 gc_1 gc_2 gc_3 gc_4 ?_
  refine Ev_Sg (mc2 := 0) (ms2 := 0) [.ref e, .int (nI n), .ref 2] dJ7_copyOf_1904c_6 sJ7_copyOf_6403c kJ7_300 rfl rfl rfl (Nat.le_of_ble_eq_true rfl) (by omega) (by omega) (by omega) (ej_copy3 l G e n k ci h hk hl hkn hn hci hel) (fun v h' e_ => ?_)
  obtain ⟨rfl, rfl⟩ := e_
  refine Ev_aret dJ7_copyOf_1904c_9 rfl (Or.inr ⟨_, rfl⟩) (Or.inr ⟨_, rfl⟩) ?_
  exact ⟨rfl, rfl⟩
