section EV
variable {l : Launch} {G : aG} {d mc ms : Nat} {M : aM} {pc : Nat} {ls st : List Value} {h : aH} {Q : Option Value → aH → Prop}
theorem kdT_o {kd : Nat} (h1 : 15 ≤ kd) (h2 : kd ≤ 18) : ∃ E, kdT kd = .object E := by rcases (show kd = 15 ∨ kd = 16 ∨ kd = 17 ∨ kd = 18 by omega) with rfl | rfl | rfl | rfl <;> exact ⟨_, rfl⟩
theorem Ev_aastN {i : Int32} {a kd : Nat} (j : Nat) (hdg : decode M.2.1 pc = .ok (.aastore, 1)) (hk : hK h a = kd) (h1 : 15 ≤ kd) (h2 : kd ≤ 18) (hi : i.toInt = (j : Int)) (hj : j < hL h a) (kk : Ev l G d mc ms M (pc + 1) ls st (sY h a j none) Q) : Ev l G d mc ms M pc ls (.null :: .int i :: .ref a :: st) h Q := by
  intro p e R s m args below meth c H locs cells slots lv C a1 a2 a3 a4 hP hS hl
  obtain ⟨E, hE⟩ := kdT_o h1 h2
  have ha := wl_rowQ hP hk h1 h2
  have hD := wl_D G h
  have hty : (aTy G)[kd - 13]? = some (gC G kd, .object E) := by rw [aTy_at G (by omega) h2, hE]
  refine va_WaastN (C := E) C.1 C.2.1 (hP.2.1 _ _ ha) ((C.2.2.2.2.2.2.2.2.1.2 (kd - 13) _ hty).1 (hL h a) (fun j => va_rf ((hY h a j).map (ad G)))) (fun q => by cases q) (by show ¬ (i < 0 ∨ (arrV _ _ _).slots.size ≤ _); rw [arrV_size]; exact ix_in hi hj) rfl rfl hdg fun H1 e0 z oq => ?_
  refine kk p e R s m args below meth c H1 _ cells slots lv C a1 a2 a3 a4 (hP.same rfl rfl z ?_) (hS.put z oq (hD.2 _ _ ha)) hl
  rw [← wl_setY (h' := sY h a j none) hP hk h1 h2 rfl rfl rfl rfl rfl rfl rfl (fun b hb => by
    funext q; exact if_neg hb)]
  refine hP.2.1.set hD ha ?_ oq
  show H1[ad G a]? = some (vp_cell _ _)
  rw [e0, ix_nat hi, vp_cell_q, vp_cell_q, arrV_store]
  congr 2
  funext q
  show updV _ _ _ _ = va_rf ((up2 (hY h) a j none a q).map (ad G))
  by_cases hq : q = j
  · subst hq
    simp [updV, up2, va_rf]
  · simp [updV, up2, hq]
theorem Ev_aast {i : Int32} {a b kd ci : Nat} {E : String} {r : vw_C} (j : Nat) (hdg : decode M.2.1 pc = .ok (.aastore, 1)) (hk : hK h a = kd) (h1 : 15 ≤ kd) (h2 : kd ≤ 18) (hE : kdT kd = .object E) (hb : hK h b = ci) (hc : vwCl[ci]? = some r) (hcast : r.1 = E ∨ Cond.castable r.1 E ∈ lw_tbl) (hi : i.toInt = (j : Int)) (hj : j < hL h a) (kk : Ev l G d mc ms M (pc + 1) ls st (sY h a j (some b)) Q) : Ev l G d mc ms M pc ls (.ref b :: .int i :: .ref a :: st) h Q := by
  intro p e R s m args below meth c H locs cells slots lv C a1 a2 a3 a4 hP hS hl
  have ha := wl_rowQ hP hk h1 h2
  have hD := wl_D G h
  have hKK := C.2.2.2.2.2.2.2.2.1
  have hty : (aTy G)[kd - 13]? = some (gC G kd, .object E) := by rw [aTy_at G (by omega) h2, hE]
  obtain ⟨r', hr', cellV, g1, g2, g3, -⟩ := hP.2.1 _ _ (wl_obj hP hb (vw_lt hc))
  have hcls := (hKK.1 ci r hc).2
  obtain ⟨kA, comp, k1, k2, k3, -⟩ := (hKK.2 (kd - 13) _ hty).2
  obtain ⟨kE, hkE, -⟩ := Vm.findClass_spec k3
  obtain ⟨kC, hkC, -⟩ := hcls.2
  have has : s.vm.assignable ((gD G).1 ci) comp = true := by
    rcases hcast with he | hca
    · rw [← he] at k3
      have hcomp : comp = (gD G).1 ci := Option.some.inj (k3.symm.trans hcls.1)
      rw [hcomp]; exact va_assign hcls
    · have hca := C.2.2.2.2.2.2.2.2.2.2.2.2.2.2.1 _ hca rfl
      obtain ⟨c0, t1, f1, f2, f3⟩ := Cond.castable_spec (va_Nw.use (A := args) rfl hca)
      cases hcls.1.symm.trans f1
      cases k3.symm.trans f2
      exact f3
  refine W.aast C.1 C.2.1 (hP.2.1 _ _ ha) (fun q h => by cases h) (fun h => by cases h) k1 k2 rfl hkE ⟨ix_nn hi, by show _ < (arrV _ _ _).slots.size; rw [arrV_size, ix_nat hi]; exact hj⟩ g1 (fun q h => by rw [g3] at h; cases h) (by rw [g2]; exact hkC) (by rw [g2]; exact has) rfl rfl hdg fun H1 e0 z oq => ?_
  refine kk p e R s m args below meth c H1 _ cells slots lv C a1 a2 a3 a4 (hP.same rfl rfl z ?_) (hS.put z oq (hD.2 _ _ ha)) hl
  rw [← wl_setY (h' := sY h a j (some b)) hP hk h1 h2 rfl rfl rfl rfl rfl rfl rfl (fun b hb => by
    funext q; exact if_neg hb)]
  refine hP.2.1.set hD ha ?_ oq
  show H1[ad G a]? = some (vp_cell _ _)
  rw [e0, ix_nat hi, vp_cell_q, vp_cell_q, arrV_store]
  congr 2
  funext q
  show updV _ _ _ _ = va_rf ((up2 (hY h) a j (some b) a q).map (ad G))
  by_cases hq : q = j
  · subst hq
    simp [updV, up2, va_rf]
  · simp [updV, up2, hq]
/-- an object's class, as the calls and casts want it -/
theorem aRecv {p : Program} {s : State} {m : MethodId} {args : Array Value} {meth : Method} {c : Code} {H : Heap} {a ci : Nat} {r : vw_C} (C : aCx G M p s m args meth c) (hP : aRp G h H) (hk : hK h a = ci) (hc : vwCl[ci]? = some r) : ∃ cell : Cell, H[ad G a]? = some cell ∧ cell.vm.isStatics = false ∧ s.vm.findClass r.1 = some cell.cls :=
  va_recv C.2.2.2.2.2.2.2.2.1 hP.2.1 hc (wl_obj hP hk (vw_lt hc))
theorem Ev_cast {idx a ci : Nat} {r : vw_C} (hdg : decode M.2.1 pc = .ok (.checkcast idx, 3)) (hk : hK h a = ci) (hc : vwCl[ci]? = some r) (hw : Cond.classLink M.1.cls idx r.1 ∈ aTs) (kk : Ev l G d mc ms M (pc + 3) ls (.ref a :: st) h Q) : Ev l G d mc ms M pc ls (.ref a :: st) h Q := by
  intro p e R s m args below meth c H locs cells slots lv C a1 a2 a3 a4 hP hS hl
  exact va_castS C.1 C.2.1 C.2.2.2.2.1 (C.2.2.2.2.2.1 _ hw) (C.2.2.2.2.2.2.2.2.1.1 ci r hc).2 (aRecv C hP hk hc) hdg (kk p e R s m args below meth c H locs cells slots lv C a1 a2 a3 a4 hP hS hl)
theorem Ev_mirror {idx : Nat} (hdg : decode M.2.1 pc = .ok (.ldc idx, 2)) (hw : Cond.classLink M.1.cls idx "[Ljava/lang/Object;" ∈ aTs) (kk : Ev l G d mc ms M (pc + 2) ls (.ref 2 :: st) h Q) : Ev l G d mc ms M pc ls st h Q := by
  intro p e R s m args below meth c H locs cells slots lv C a1 a2 a3 a4 hP hS hl
  exact va_ldcM C.1 C.2.1 C.2.2.2.2.1 (C.2.2.2.2.2.1 _ hw) C.2.2.2.2.2.2.2.2.2.2.2.2.2.1 hdg (kk p e R s m args below meth c H locs cells slots lv C a1 a2 a3 a4 hP hS hl)
theorem cat_sum (G : aG) {st : List Value} (h : st.all okv = true) : ((st.map (tv G)).map fun v => v.category).sum = st.length := by
  induction st with
  | nil => rfl
  | cons v st ih =>
    simp only [List.all_cons, Bool.and_eq_true] at h
    simp only [List.map_cons, List.sum_cons, List.length_cons, okv_cat G h.1, ih h.2]
    omega
theorem Ev_objI {idx a : Nat} (hdg : decode M.2.1 pc = .ok (.invokespecial idx, 3)) (hd : 1 ≤ d) (hst : st.all okv = true) (hlen : st.length ≤ 8) (hw : Cond.methodLink M.1.cls idx objectInit ∈ aTs) (hw2 : Cond.instanceMethod objectInit ∈ aTs) (hw3 : Cond.code objectInit ⟨#[0xb1]⟩ 1 none ∈ aTs) (kk : Ev l G d mc ms M (pc + 3) ls st h Q) : Ev l G d mc ms M pc ls (.ref a :: st) h Q := by
  intro p e R s m args below meth c H locs cells slots lv C a1 a2 a3 a4 hP hS hl
  have hts := C.2.2.2.2.2.1
  refine W.objInit C.1 C.2.1 C.2.2.2.2.1 (hts _ hw) (hts _ hw2) (hts _ hw3) rfl (by rw [C.2.2.1]; exact hl.1) rfl hdg (by omega) (by show 2 * 0 + ((st.map (tv G)).map fun v => v.category).sum + 12 ≤ R.locals; rw [cat_sum G hst]; omega) ?_
  exact kk p e R s m args below meth c H locs cells slots lv C a1 a2 a3 a4 hP hS hl
theorem Ev_getC {idx a : Nat} (hdg : decode M.2.1 pc = .ok (.invokevirtual idx, 3)) (hd : 1 ≤ d) (hst : st.all okv = true) (hlen : st.length ≤ 8) (hk : hK h a = 15) (hw : Cond.methodLink M.1.cls idx ⟨"java/lang/Object", "getClass", "()Ljava/lang/Class;"⟩ ∈ aTs) (hw2 : Cond.declares ⟨"java/lang/Object", "getClass", "()Ljava/lang/Class;"⟩ ∈ lw_tbl) (hw3 : Cond.selects "[Ljava/lang/Object;" ⟨"java/lang/Object", "getClass", "()Ljava/lang/Class;"⟩ ⟨"java/lang/Object", "getClass", "()Ljava/lang/Class;"⟩ ∈ aTs) (hw4 : Cond.instanceMethod ⟨"java/lang/Object", "getClass", "()Ljava/lang/Class;"⟩ ∈ aTs) (hw5 : Cond.native ⟨"java/lang/Object", "getClass", "()Ljava/lang/Class;"⟩ ∈ aTs) (kk : Ev l G d mc ms M (pc + 3) ls (.ref 2 :: st) h Q) : Ev l G d mc ms M pc ls (.ref a :: st) h Q := by
  intro p e R s m args below meth c H locs cells slots lv C a1 a2 a3 a4 hP hS hl
  have hts := C.2.2.2.2.2.1
  have hty : (aTy G)[2]? = some (gC G 15, .object "java/lang/Object") := rfl
  refine va_getC (C := "[Ljava/lang/Object;") C.1 C.2.1 (by rw [C.2.2.1]; exact hl.1.symm) C.2.2.2.2.1 (hts _ hw) (va_Nw.use (A := args) rfl (C.2.2.2.2.2.2.2.2.2.2.2.2.2.2.1 _ hw2 rfl)) (hts _ hw3) (hts _ hw4) (hts _ hw5) C.2.2.2.2.2.2.2.2.2.2.2.2.2.1 ?_ (by omega) (by rw [cat_sum G hst]; omega) hdg (kk p e R s m args below meth c H locs cells slots lv C a1 a2 a3 a4 hP hS hl)
  exact ⟨_, hP.2.1 _ _ (wl_rowQ hP hk (by omega) (by omega)), rfl, va_nmO (C.2.2.2.2.2.2.2.2.1.2 2 _ hty).2 (by decide)⟩
end EV
