theorem ix_of_nat (z : Int32) (hz : ¬ z < 0) : z.toInt = (z.toNatClampNeg : Int) := by
  have hz0 : (0 : Int) ≤ z.toInt := by
    have := Int32.not_lt.mp hz
    simpa using Int32.le_iff_toInt_le.mp this
  show z.toInt = ((z.toInt.toNat : Nat) : Int)
  omega
theorem cpy_map {α β : Type} (g : α → β) (f f2 : Nat → α) (a b n : Nat) : (fun j => g (va_cpy f f2 a b n j)) = va_cpy (fun j => g (f j)) (fun j => g (f2 j)) a b n := by
  funext j
  unfold va_cpy
  split <;> rfl
section EV
variable {l : Launch} {G : aG} {d mc ms : Nat} {M : aM} {pc : Nat} {ls st : List Value} {h : aH} {Q : Option Value → aH → Prop}
theorem Ev_copyI {idx a a0 : Nat} {sp dp n : Int32} (sp' dp' n' : Nat) (hdg : decode M.2.1 pc = .ok (.invokestatic idx, 3)) (hd : 1 ≤ d) (hst : st.all okv = true) (hlen : st.length ≤ 8) (hk0 : hK h a0 = 13) (hk1 : hK h a = 13) (w1 : Cond.methodLink M.1.cls idx arraycopyName ∈ aTs) (w2 : Cond.native arraycopyName ∈ aTs) (w3 : Cond.static arraycopyName ∈ aTs) (w4 : Cond.initialized "java/lang/System" ∈ aTs)
    (e1 : sp.toInt = (sp' : Int)) (e2 : dp.toInt = (dp' : Int)) (e3 : n.toInt = (n' : Int)) (b1 : sp' + n' ≤ hL h a0) (b2 : dp' + n' ≤ hL h a) (kk : Ev l G d mc ms M (pc + 3) ls st (sXs h a (va_cpy (hX h a0) (hX h a) sp' dp' n')) Q) : Ev l G d mc ms M pc ls (.int n :: .int dp :: .ref a :: .int sp :: .ref a0 :: st) h Q := by
  intro p e R s m args below meth c H locs cells slots lv C a1 a2 a3 a4 hP hS hl T hT X
  have hts := C.2.2.2.2.2.1
  have hKK := C.2.2.2.2.2.2.2.2.1
  have hw0 := wl_rowI hP hk0 (Or.inl rfl)
  have hw1 := wl_rowI hP hk1 (Or.inl rfl)
  have hD := wl_D G h
  have hty : (aTy G)[0]? = some (gC G 13, .int) := rfl
  have hc0 : H[ad G a0]? = some (vp_cell (gC G 13) (hL h a0, .inl (hX h a0))) := hP.2.1 _ _ hw0
  have hc1 : H[ad G a]? = some (vp_cell (gC G 13) (hL h a, .inl (hX h a))) := hP.2.1 _ _ hw1
  obtain ⟨-, k0, hk0', cm0, hkk0⟩ := (hKK.2 0 _ hty).1 (hL h a0) (fun j => .int (hX h a0 j))
  have hn1 := ix_nat e1
  have hn2 := ix_nat e2
  have hn3 := ix_nat e3
  obtain ⟨vm', X', step⟩ := X.arraycopy C.1 C.2.2.2.2.1 (hts _ w1) (hts _ w2) (hts _ w3) (hts _ w4) (src := ad G a0) (dst := ad G a) (cs := vp_cell (gC G 13) (hL h a0, .inl (hX h a0))) (cd := vp_cell (gC G 13) (hL h a, .inl (hX h a))) (srcPos := sp) (destPos := dp) (n := n) (by rw [hT]; exact hc0) (by rw [hT]; exact hc1)
    (fun _ h => by cases h) (fun _ h => by cases h) (fun h => by cases h) (fun h => by cases h) hk0' hk0' hkk0 hkk0 (by simp) (ix_nn e1) (ix_nn e2) (ix_nn e3)
    (by rw [e1, e3]; show ¬ _ > ((arrV _ (hL h a0) (fun j => .int (hX h a0 j))).slots.size : Int); rw [arrV_size]; omega)
    (by rw [e2, e3]; show ¬ _ > ((arrV _ (hL h a) (fun j => .int (hX h a j))).slots.size : Int); rw [arrV_size]; omega)
    (fun vm₁ _ i hi => by
      have e0 : (vp_cell (gC G 13) (hL h a0, .inl (hX h a0))).slots.getD (sp.toNatClampNeg + i) .null = .int (hX h a0 (sp.toNatClampNeg + i)) := by
        show (arrV _ (hL h a0) (fun j => .int (hX h a0 j))).slots.getD _ _ = _
        rw [Array.getD_eq_getD_getElem?, arrV_read _ _ (by omega)]
        rfl
      refine ⟨?_, ?_⟩
      · rw [e0]; rfl
      · rw [e0]; exact trivial)
    (g := F0 m pc lv (List.map (tv G) (.int n :: .int dp :: .ref a :: .int sp :: .ref a0 :: st))) rfl (by rw [C.2.2.1]; exact hl.1) (rest := st.map (tv G)) rfl (by rw [C.2.1]; exact hdg) (by omega) (by
      show 2 * 0 + ((st.map (tv G)).map fun v => v.category).sum + _ ≤ _
      rw [cat_sum G hst]
      have hw : nativeFrameWords "java/lang/System" "arraycopy" 5 ≤ 20 := by decide
      omega)
  have ec : copied (vp_cell (gC G 13) (hL h a0, .inl (hX h a0))) (vp_cell (gC G 13) (hL h a, .inl (hX h a))) sp dp n = vp_cell (gC G 13) (hL h a, .inl (va_cpy (hX h a0) (hX h a) sp.toNatClampNeg dp.toNatClampNeg n.toNatClampNeg)) := va_copied (fun z => .int z) _ _ (hX h a0) (hX h a) (by omega)
  rw [ec, hn1, hn2, hn3] at X' step
  have hlt : ad G a < H.size := (Array.getElem?_eq_some_iff.mp hc1).1
  have hheap : ((T.setVm vm').setCell (ad G a) (vp_cell (gC G 13) (hL h a, .inl (va_cpy (hX h a0) (hX h a) sp' dp' n')))).heap = H.setIfInBounds (ad G a) (vp_cell (gC G 13) (hL h a, .inl (va_cpy (hX h a0) (hX h a) sp' dp' n'))) := by rw [← hT]; rfl
  have oq : ∀ q : Nat, q ≠ ad G a → (H.setIfInBounds (ad G a) (vp_cell (gC G 13) (hL h a, .inl (va_cpy (hX h a0) (hX h a) sp' dp' n'))))[q]? = H[q]? := fun q hq => by simp [Array.getElem?_setIfInBounds, Ne.symm hq]
  have hr : aRp G (sXs h a (va_cpy (hX h a0) (hX h a) sp' dp' n')) (H.setIfInBounds (ad G a) (vp_cell (gC G 13) (hL h a, .inl (va_cpy (hX h a0) (hX h a) sp' dp' n')))) := by
    refine hP.same rfl rfl (by simp) ?_
    rw [← wl_setX (h' := sXs h a (va_cpy (hX h a0) (hX h a) sp' dp' n')) hP hk1 (Or.inl rfl) rfl rfl rfl rfl rfl rfl (up1_s _ _ _) (fun b hb => up1_n _ _ hb)]
    exact hP.2.1.set hD hw1 (show (H.setIfInBounds (ad G a) _)[ad G a]? = some _ by simp [Array.getElem?_setIfInBounds, hlt]) oq
  obtain ⟨t, b1, b2⟩ := kk p e R s m args below meth c _ _ cells slots lv C a1 a2 a3 a4 hr ⟨by simp; exact hS.1, fun q g1 g2 => by
      rw [oq q (fun e => g2 (by rw [e]; exact hD.2 _ _ hw1))]
      exact hS.2.1 q g1 g2, fun q hq => by
      rcases List.mem_append.mp hq with h | h
      · exact hS.2.2 q h
      · obtain ⟨z, -, hz⟩ := List.mem_map.mp h
        rw [← hz]
        exact hD.2 _ _ hw1⟩ hl _ hheap X'
  exact ⟨t, step t b1, b2⟩
theorem Ev_copyQ {idx a a0 ci : Nat} {r : vw_C} {sp dp n : Int32} (sp' dp' n' : Nat) (hdg : decode M.2.1 pc = .ok (.invokestatic idx, 3)) (hd : 1 ≤ d) (hst : st.all okv = true) (hlen : st.length ≤ 8) (hk0 : hK h a0 = 15) (hk1 : hK h a = 15) (w1 : Cond.methodLink M.1.cls idx arraycopyName ∈ aTs) (w2 : Cond.native arraycopyName ∈ aTs) (w3 : Cond.static arraycopyName ∈ aTs) (w4 : Cond.initialized "java/lang/System" ∈ aTs) (hc : vwCl[ci]? = some r) (hcast : Cond.castable r.1 "java/lang/Object" ∈ lw_tbl)
    (e1 : sp.toInt = (sp' : Int)) (e2 : dp.toInt = (dp' : Int)) (e3 : n.toInt = (n' : Int)) (b1 : sp' + n' ≤ hL h a0) (b2 : dp' + n' ≤ hL h a) (hel : ∀ i, i < n' → ∀ y, hY h a0 (sp' + i) = some y → hK h y = ci) (kk : Ev l G d mc ms M (pc + 3) ls st (sYs h a (va_cpy (hY h a0) (hY h a) sp' dp' n')) Q) : Ev l G d mc ms M pc ls (.int n :: .int dp :: .ref a :: .int sp :: .ref a0 :: st) h Q := by
  intro p e R s m args below meth c H locs cells slots lv C a1 a2 a3 a4 hP hS hl T hT X
  have hts := C.2.2.2.2.2.1
  have hKK := C.2.2.2.2.2.2.2.2.1
  have hw0 := wl_rowQ hP hk0 (by omega) (by omega)
  have hw1 := wl_rowQ hP hk1 (by omega) (by omega)
  have hD := wl_D G h
  have hty : (aTy G)[2]? = some (gC G 15, .object "java/lang/Object") := rfl
  generalize hf0 : (fun j => (hY h a0 j).map (ad G)) = f0 at hw0
  generalize hf1 : (fun j => (hY h a j).map (ad G)) = f1 at hw1
  have hc0 : H[ad G a0]? = some (vp_cell (gC G 15) (hL h a0, .inr (.inr (.inr (.inr f0))))) := hP.2.1 _ _ hw0
  have hc1 : H[ad G a]? = some (vp_cell (gC G 15) (hL h a, .inr (.inr (.inr (.inr f1))))) := hP.2.1 _ _ hw1
  obtain ⟨-, k0, hk0', cm0, hkk0⟩ := (hKK.2 2 _ hty).1 (hL h a0) (fun j => va_rf (f0 j))
  have hn1 := ix_nat e1
  have hn2 := ix_nat e2
  have hn3 := ix_nat e3
  have hca := C.2.2.2.2.2.2.2.2.2.2.2.2.2.2.1 _ hcast rfl
  obtain ⟨cc0, tt1, ff1, ff2, ff3⟩ := Cond.castable_spec (va_Nw.use (A := args) rfl hca)
  obtain ⟨vm', X', step⟩ := X.arraycopy C.1 C.2.2.2.2.1 (hts _ w1) (hts _ w2) (hts _ w3) (hts _ w4) (src := ad G a0) (dst := ad G a) (cs := vp_cell (gC G 15) (hL h a0, .inr (.inr (.inr (.inr f0))))) (cd := vp_cell (gC G 15) (hL h a, .inr (.inr (.inr (.inr f1))))) (srcPos := sp) (destPos := dp) (n := n) (by rw [hT]; exact hc0) (by rw [hT]; exact hc1)
    (fun _ h => by cases h) (fun _ h => by cases h) (fun h => by cases h) (fun h => by cases h) hk0' hk0' hkk0 hkk0 rfl (ix_nn e1) (ix_nn e2) (ix_nn e3)
    (by rw [e1, e3]; show ¬ _ > ((arrV _ (hL h a0) (fun j => va_rf (f0 j))).slots.size : Int); rw [arrV_size]; omega)
    (by rw [e2, e3]; show ¬ _ > ((arrV _ (hL h a) (fun j => va_rf (f1 j))).slots.size : Int); rw [arrV_size]; omega)
    (fun vm₁ hal i hi => by
      have e0 : (vp_cell (gC G 15) (hL h a0, .inr (.inr (.inr (.inr f0))))).slots.getD (sp.toNatClampNeg + i) .null = va_rf (f0 (sp.toNatClampNeg + i)) := by
        show (arrV _ (hL h a0) (fun j => va_rf (f0 j))).slots.getD _ _ = _
        rw [Array.getD_eq_getD_getElem?, arrV_read _ _ (by omega)]
        rfl
      rw [e0]
      cases hy : f0 (sp.toNatClampNeg + i) with
      | none => exact ⟨rfl, trivial⟩
      | some y =>
        rw [← hf0, hn1] at hy
        obtain ⟨y', hy1, hy2⟩ := Option.map_eq_some_iff.mp hy
        obtain ⟨cellV, g1, g2, g3⟩ := aRecv C hP (hel i (by omega) y' hy1) hc
        rw [hy2] at g1
        obtain ⟨kA, comp, r1, r2, r3, -⟩ := (hKK.2 2 _ hty).2
        cases hk0'.symm.trans r1
        cases hkk0.symm.trans r2
        obtain ⟨kC, hkC, -⟩ := Vm.findClass_spec g3
        obtain ⟨kE, hkE, -⟩ := Vm.findClass_spec r3
        obtain ⟨kC', hkC', -⟩ := hal.2.2 _ _ hkC
        obtain ⟨kE', hkE', -⟩ := hal.2.2 _ _ hkE
        refine ⟨rfl, cellV, (show T.heap[y]? = some cellV by rw [hT]; exact g1), (fun q h => by rw [h] at g2; cases g2), ⟨kC', hkC'⟩, ?_, ?_⟩
        · exact ⟨kE', hkE'⟩
        · show vm₁.assignable _ _ = true
          rw [hal.assignable]
          cases g3.symm.trans ff1
          cases r3.symm.trans ff2
          exact ff3)
    (g := F0 m pc lv (List.map (tv G) (.int n :: .int dp :: .ref a :: .int sp :: .ref a0 :: st))) rfl (by rw [C.2.2.1]; exact hl.1) (rest := st.map (tv G)) rfl (by rw [C.2.1]; exact hdg) (by omega) (by
      show 2 * 0 + ((st.map (tv G)).map fun v => v.category).sum + _ ≤ _
      rw [cat_sum G hst]
      have hw : nativeFrameWords "java/lang/System" "arraycopy" 5 ≤ 20 := by decide
      omega)
  have ec : copied (vp_cell (gC G 15) (hL h a0, .inr (.inr (.inr (.inr f0))))) (vp_cell (gC G 15) (hL h a, .inr (.inr (.inr (.inr f1))))) sp dp n = vp_cell (gC G 15) (hL h a, .inr (.inr (.inr (.inr (va_cpy f0 f1 sp.toNatClampNeg dp.toNatClampNeg n.toNatClampNeg))))) := va_copied (fun z => va_rf z) _ _ f0 f1 (by omega)
  rw [ec, hn1, hn2, hn3] at X' step
  have hlt : ad G a < H.size := (Array.getElem?_eq_some_iff.mp hc1).1
  generalize hnc : vp_cell (gC G 15) (hL h a, .inr (.inr (.inr (.inr (va_cpy f0 f1 sp' dp' n'))))) = nc at X' step
  have hheap : ((T.setVm vm').setCell (ad G a) nc).heap = H.setIfInBounds (ad G a) nc := by rw [← hT]; rfl
  have oq : ∀ q : Nat, q ≠ ad G a → (H.setIfInBounds (ad G a) nc)[q]? = H[q]? := fun q hq => by simp [Array.getElem?_setIfInBounds, Ne.symm hq]
  have hr : aRp G (sYs h a (va_cpy (hY h a0) (hY h a) sp' dp' n')) (H.setIfInBounds (ad G a) nc) := by
    refine hP.same rfl rfl (by simp) ?_
    rw [← wl_setY (f := va_cpy f0 f1 sp' dp' n') (h' := sYs h a (va_cpy (hY h a0) (hY h a) sp' dp' n')) hP hk1 (by omega) (by omega) rfl rfl rfl rfl rfl rfl (by
      rw [show hY (sYs h a (va_cpy (hY h a0) (hY h a) sp' dp' n')) a = va_cpy (hY h a0) (hY h a) sp' dp' n' from up1_s _ _ _, cpy_map, hf0, hf1]) (fun b hb => up1_n _ _ hb)]
    refine hP.2.1.set hD hw1 ?_ oq
    show (H.setIfInBounds (ad G a) nc)[ad G a]? = some (vp_cell _ _)
    rw [hnc]
    simp [Array.getElem?_setIfInBounds, hlt]
  obtain ⟨t, b1, b2⟩ := kk p e R s m args below meth c _ _ cells slots lv C a1 a2 a3 a4 hr ⟨by simp; exact hS.1, fun q g1 g2 => by
      rw [oq q (fun e => g2 (by rw [e]; exact hD.2 _ _ hw1))]
      exact hS.2.1 q g1 g2, fun q hq => by
      rcases List.mem_append.mp hq with h | h
      · exact hS.2.2 q h
      · obtain ⟨z, -, hz⟩ := List.mem_map.mp h
        rw [← hz]
        exact hD.2 _ _ hw1⟩ hl _ hheap X'
  exact ⟨t, step t b1, b2⟩
end EV
