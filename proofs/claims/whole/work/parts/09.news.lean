section EV
variable {l : Launch} {G : aG} {d mc ms : Nat} {M : aM} {pc : Nat} {ls st : List Value} {h : aH} {Q : Option Value → aH → Prop}
theorem aRp.grow {H H1 : Heap} {h' : aH} (hP : aRp G h H) (hz : H1.size = H.size + 1) (ho : ∀ q, q < H.size → H1[q]? = H[q]?) (en : hN h' = hN h + 1) (ek : ∀ a, a ≠ hN h + 3 → hK h' a = hK h a) (ec : ∀ b, b < hN h + 3 → aCl G h' b = aCl G h b) (hat : va_at (gD G) vwCl (gB G + hN h, aCl G h' (hN h + 3)) H1) : aRp G h' H1 := by
  refine ⟨by rw [hz, hP.1, en]; omega, ?_, fun a ha => ?_⟩
  · rw [← wl_push G en ec]
    refine (hP.2.1.kept (fun k q hk => ho q.1 (hP.2.1 k q hk).lt)).app (fun k x hx => ?_)
    have hz : k < 1 := (List.getElem?_eq_some_iff.mp hx).1
    rw [show k = 0 by omega] at hx
    cases hx
    exact hat
  · by_cases hb : a = hN h + 3
    · rw [hb, en]; omega
    · have := hP.2.2 a (by rw [← ek a hb]; exact ha)
      rw [en]; omega
theorem S_grow {s : State} {H H1 : Heap} {locs : List Loc} (hS : va_S (fun q => gB G ≤ q) s.heap H locs) (hz : H1.size = H.size + 1) (ho : ∀ q, q < H.size → H1[q]? = H[q]?) : va_S (fun q => gB G ≤ q) s.heap H1 locs := ⟨Nat.le_trans hS.1 (by omega), fun x h1 h2 => (ho x (Nat.lt_of_lt_of_le h1 hS.1)).trans (hS.2.1 x h1 h2), hS.2.2⟩
theorem aCl_nO {ci b : Nat} (hb : b < hN h + 3) : aCl G (nO h ci) b = aCl G h b :=
  aCl_eq (up1_n _ _ (by omega)) (fun _ => if_neg (by omega)) (fun _ => if_neg (by omega)) rfl rfl rfl
theorem aCl_nA {kd n b : Nat} (hb : b < hN h + 3) : aCl G (nA h kd n) b = aCl G h b :=
  aCl_eq (up1_n _ _ (by omega)) (fun _ => rfl) (fun _ => rfl) (up1_n _ _ (by omega)) (up1_n _ _ (by omega)) (up1_n _ _ (by omega))
theorem fv_dflt {ci j : Nat} (hj : j < fn ci) (hty : fT ci j = .int ∨ fT ci j = .boolean ∨ rfT (fT ci j) = true) : defaultValue (fT ci j) = fv G (nO h ci) ci j (hN h + 3) := by
  have e1 : hI (nO h ci) (64 * ci + j) (hN h + 3) = 0 := if_pos rfl
  have e2 : hR (nO h ci) (64 * ci + j) (hN h + 3) = none := if_pos rfl
  unfold fv
  rw [e1, e2]
  rcases hty with hy | hy | hy
  · rw [hy]; rfl
  · rw [hy]; rfl
  · rw [if_pos hy]
    cases hf : fT ci j <;> rw [hf] at hy <;> first | rfl | (simp [rfT] at hy)
theorem ty_ok {ci : Nat} {r : vw_C} (h : vwCl[ci]? = some r) : ∀ j, j < r.2.2 → fT ci j = .int ∨ fT ci j = .boolean ∨ rfT (fT ci j) = true := by
  have hl := vw_lt h
  match ci, h with
  | 0, h | 1, h | 2, h | 3, h | 4, h | 5, h | 6, h | 7, h | 8, h | 9, h | 10, h | 11, h | 12, h => cases h; decide +kernel
  | n + 13, h => exact absurd hl (by omega)
/-- a class's place in a constant table, and that it can be made -/
def aNl (own : String) (idx ci : Nat) : Prop := ∃ (C : String) (T : u_T) (N : Nat), vwCl[ci]? = some (C, T, N) ∧ Cond.classLink own idx C ∈ aTs ∧ Cond.instantiable C N ∈ aTs ∧ Cond.initialized C ∈ aTs
theorem Ev_new {idx ci : Nat} (hdg : decode M.2.1 pc = .ok (.new idx, 3)) (hn : aNl M.1.cls idx ci) (kk : Ev l G d mc ms M (pc + 3) ls (.ref (hN h + 3) :: st) (nO h ci) Q) : Ev l G d (mc + 1) (ms + fn ci) M pc ls st h Q := by
  intro p e R s m args below meth c H locs cells slots lv C a1 a2 a3 a4 hP hS hl
  obtain ⟨K, T, N, q1, q2, q3, q4⟩ := hn
  have hts := C.2.2.2.2.2.1
  have hKn := C.2.2.2.2.2.2.2.2.1.1 ci _ q1
  have hfn : fn ci = N := fn_eq q1
  rw [hfn] at a4
  refine W.newcK C.1 C.2.1 C.2.2.2.2.1 (hts _ q2) (hts _ q3) (hts _ q4) rfl hdg (by omega) (by omega) hKn.2.1 rfl fun H1 kC hkC e1 z1 o1 => ?_
  have ha : ad G (hN h + 3) = H.size := by rw [ad_3 G (by omega), hP.1]; omega
  have hr : aRp G (nO h ci) H1 := by
    refine hP.grow z1 o1 rfl (fun a ha => up1_n _ _ ha) (fun b hb => aCl_nO hb) ?_
    rw [aCl_obj (h := nO h ci) (up1_s _ _ _) (vw_lt q1)]
    refine ⟨_, q1, (u_born (fT ci) hts (us_in q1) hKn hkC ?_ (ty_all q1).1).to (fun j hj => ?_)⟩
    · rw [← hP.1]; exact e1
    · rw [vp_V, List.getD_eq_getElem?_getD, fvs_at (by rw [hfn]; exact hj)]
      exact fv_dflt (by rw [hfn]; exact hj) (ty_ok q1 j hj)
  have hz : List.map (tv G) (Value.ref (hN h + 3) :: st) = Value.ref H.size :: st.map (tv G) := by
    rw [← ha]; rfl
  have K1 := kk p e R s m args below meth c H1 locs (cells + 1) (slots + N) lv C a1 a2 (by omega) (by omega) hr (S_grow hS z1 o1) hl
  rw [hz] at K1
  exact K1
theorem Ev_newa {kd : Nat} {n : Int32} {aty : ArrayType} (N : Nat) (hdg : decode M.2.1 pc = .ok (.newarray aty, 2)) (hty : newarray.typeOf aty = kdT kd) (hkd : kd = 13 ∨ kd = 14) (hw : Cond.arrayClass (kdT kd) ∈ aTs) (hn : n.toInt = (N : Int)) (hbig : N ≤ 100000) (kk : Ev l G d mc ms M (pc + 2) ls (.ref (hN h + 3) :: st) (nA h kd N) Q) : Ev l G d (mc + 1) (ms + N) M pc ls (.int n :: st) h Q := by
  intro p e R s m args below meth c H locs cells slots lv C a1 a2 a3 a4 hP hS hl
  have hts := C.2.2.2.2.2.1
  have hb4 : componentBytes (kdT kd) ≤ 8 := by rcases hkd with rfl | rfl <;> decide
  refine va_newaK (N := N) C.1 C.2.1 (by rw [hty]; exact hts _ hw) rfl hdg rfl (ix_nn hn) (ix_nat hn) (by rw [hty]; exact Nat.le_trans (Nat.mul_le_mul hbig hb4) (by decide)) (by omega) (by omega) rfl fun H1 cA e1 z1 o1 hAr hNm => ?_
  rw [hty] at hAr hNm e1
  have ha : ad G (hN h + 3) = H.size := by rw [ad_3 G (by omega), hP.1]; omega
  have hcA : cA = gC G kd := by
    have h2 := (C.2.2.2.2.2.2.2.2.1.2 (kd - 13) _ (aTy_at G (by omega) (by omega))).2
    rcases hkd with rfl | rfl <;> exact Option.some.inj (hNm.symm.trans h2)
  subst hcA
  have hr : aRp G (nA h kd N) H1 := by
    refine hP.grow z1 o1 rfl (fun a ha => up1_n _ _ ha) (fun b hb => aCl_nA hb) ?_
    rw [aCl_int (h := nA h kd N) (kd := kd) (up1_s _ _ _) hkd]
    show H1[gB G + hN h]? = some (vp_cell _ _)
    rw [← hP.1, e1, show hL (nA h kd N) (hN h + 3) = N from up1_s _ _ _, show hX (nA h kd N) (hN h + 3) = (fun _ => 0) from up1_s _ _ _, vp_cell_i]
    rcases hkd with rfl | rfl <;> rfl
  have hz : List.map (tv G) (Value.ref (hN h + 3) :: st) = Value.ref H.size :: st.map (tv G) := by
    rw [← ha]; rfl
  have K1 := kk p e R s m args below meth c H1 locs (cells + 1) (slots + N) lv C a1 a2 (by omega) (by omega) hr (S_grow hS z1 o1) hl
  rw [hz] at K1
  exact K1
theorem Ev_newq {kd idx : Nat} {n : Int32} {E : String} (N : Nat) (hdg : decode M.2.1 pc = .ok (.anewarray idx, 3)) (hty : kdT kd = .object E) (hkd : 15 ≤ kd) (hkd2 : kd ≤ 18) (hw : Cond.classLink M.1.cls idx E ∈ aTs) (hw2 : Cond.arrayOver (.object E) ∈ lw_tbl) (hn : n.toInt = (N : Int)) (hbig : N ≤ 100000) (kk : Ev l G d mc ms M (pc + 3) ls (.ref (hN h + 3) :: st) (nA h kd N) Q) : Ev l G d (mc + 1) (ms + N) M pc ls (.int n :: st) h Q := by
  intro p e R s m args below meth c H locs cells slots lv C a1 a2 a3 a4 hP hS hl
  have hts := C.2.2.2.2.2.1
  have hov : va_AO E s := C.2.2.2.2.2.2.2.2.2.2.2.2.2.2.1 _ hw2 rfl
  have hnn := ix_nat hn
  refine W.anew C.1 C.2.1 C.2.2.2.2.1 (hts _ hw) (va_AO.use hov) rfl hdg rfl (ix_nn hn) (by rw [hnn]; exact Nat.le_trans (Nat.mul_le_mul hbig (Nat.le_refl 4)) (by decide)) (by omega) (by rw [hnn]; omega) fun cA kA comp f1 f2 f3 f4 => ?_
  rw [hnn]
  generalize hH1 : H.push ({ cls := cA, slots := Array.replicate N .null, vm := .none } : Cell) = H1
  have z1 : H1.size = H.size + 1 := by rw [← hH1, Array.size_push]
  have e1 : H1[H.size]? = some (arrV cA N (fun _ => .null)) := by rw [← hH1, Array.getElem?_push_size, ← arrV_new]
  have o1 : ∀ q : Nat, q < H.size → H1[q]? = H[q]? := fun q hq => by rw [← hH1, Array.getElem?_push, if_neg (Nat.ne_of_lt hq)]
  have ha : ad G (hN h + 3) = H.size := by rw [ad_3 G (by omega), hP.1]; omega
  have hcA : cA = gC G kd := by
    have h2 := (C.2.2.2.2.2.2.2.2.1.2 (kd - 13) _ (aTy_at G (by omega) hkd2)).2
    rw [hty] at h2
    obtain ⟨-, -, -, -, -, h4⟩ := h2
    exact Option.some.inj (f1.symm.trans h4)
  subst hcA
  have hr : aRp G (nA h kd N) H1 := by
    refine hP.grow z1 o1 rfl (fun a ha => up1_n _ _ ha) (fun b hb => aCl_nA hb) ?_
    rw [aCl_ref (h := nA h kd N) (kd := kd) (up1_s _ _ _) hkd]
    show H1[gB G + hN h]? = some (vp_cell _ _)
    rw [← hP.1, e1, show hL (nA h kd N) (hN h + 3) = N from up1_s _ _ _, show hY (nA h kd N) (hN h + 3) = (fun _ => none) from up1_s _ _ _, vp_cell_q]
    rfl
  have hz : List.map (tv G) (Value.ref (hN h + 3) :: st) = Value.ref H.size :: st.map (tv G) := by
    rw [← ha]; rfl
  have K1 := kk p e R s m args below meth c H1 locs (cells + 1) (slots + N) lv C a1 a2 (by omega) (by omega) hr (S_grow hS z1 o1) hl
  rw [hz] at K1
  exact K1
end EV
