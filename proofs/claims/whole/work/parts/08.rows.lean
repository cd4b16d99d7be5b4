theorem ix_nat {i : Int32} {j : Nat} (h : i.toInt = (j : Int)) : i.toNatClampNeg = j := by
  show i.toInt.toNat = j
  rw [h]; rfl
theorem ix_in {i : Int32} {j n : Nat} (h : i.toInt = (j : Int)) (hj : j < n) : vp_in i n := vp_in_iff.mpr ⟨by rw [h]; omega, by rw [h]; omega⟩
theorem ix_nn {i : Int32} {j : Nat} (h : i.toInt = (j : Int)) : ¬ i < 0 := by
  intro hc
  have := Int32.lt_iff_toInt_lt.mp hc
  simp at this
  omega
def kdT : Nat → FieldType := fun kd => match kd with
  | 13 => .int
  | 14 => .boolean
  | 15 => .object "java/lang/Object"
  | 16 => .object "MadeMended$Piece"
  | 17 => .object "MadeMended$Rule"
  | _ => .object "MadeMended$Thing"
theorem aTy_at (G : aG) {kd : Nat} (h1 : 13 ≤ kd) (h2 : kd ≤ 18) : (aTy G)[kd - 13]? = some (gC G kd, kdT kd) := by
  rcases (show kd = 13 ∨ kd = 14 ∨ kd = 15 ∨ kd = 16 ∨ kd = 17 ∨ kd = 18 by omega) with rfl | rfl | rfl | rfl | rfl | rfl <;> rfl
section EV
variable {l : Launch} {G : aG} {d mc ms : Nat} {M : aM} {pc : Nat} {ls st : List Value} {h : aH} {Q : Option Value → aH → Prop}
theorem wl_rowI {H : Heap} {a kd : Nat} (hP : aRp G h H) (hk : hK h a = kd) (hc : kd = 13 ∨ kd = 14) : (wl G h)[a - 3]? = some (ad G a, .inl (gC G kd, hL h a, .inl (hX h a))) := by
  obtain ⟨h3, hn⟩ := hP.2.2 a (by rw [hk]; omega)
  rw [wl_get G h3 hn, aCl_int hk hc]
theorem wl_rowQ {H : Heap} {a kd : Nat} (hP : aRp G h H) (hk : hK h a = kd) (h1 : 15 ≤ kd) (h2 : kd ≤ 18) : (wl G h)[a - 3]? = some (ad G a, .inl (gC G kd, hL h a, .inr (.inr (.inr (.inr (fun j => (hY h a j).map (ad G))))))) := by
  obtain ⟨h3, hn⟩ := hP.2.2 a (by rw [hk]; omega)
  rw [wl_get G h3 hn, aCl_ref hk h1]
theorem wl_obj {H : Heap} {a ci : Nat} (hP : aRp G h H) (hk : hK h a = ci) (hc : ci < 13) : (wl G h)[a - 3]? = some (ad G a, .inr (ci, fvs G h ci a)) := by
  obtain ⟨h3, hn⟩ := hP.2.2 a (by rw [hk]; omega)
  rw [wl_get G h3 hn, aCl_obj hk hc]
theorem Ev_iald {i : Int32} {a : Nat} (j : Nat) (hdg : decode M.2.1 pc = .ok (.iaload, 1)) (hk : hK h a = 13) (hi : i.toInt = (j : Int)) (hj : j < hL h a) (kk : Ev l G d mc ms M (pc + 1) ls (.int (hX h a j) :: st) h Q) : Ev l G d mc ms M pc ls (.int i :: .ref a :: st) h Q := by
  intro p e R s m args below meth c H locs cells slots lv C a1 a2 a3 a4 hP hS hl
  refine va_iald C.1 C.2.1 C.2.2.2.2.2.2.2.2.1 hP.2.1 (a - 3) 0 (wl_rowI hP hk (Or.inl rfl)) rfl (ix_in hi hj) hdg ?_
  rw [ix_nat hi]
  exact kk p e R s m args below meth c H locs cells slots lv C a1 a2 a3 a4 hP hS hl
theorem Ev_zald {i : Int32} {a : Nat} (j : Nat) (hdg : decode M.2.1 pc = .ok (.baload, 1)) (hk : hK h a = 14) (hi : i.toInt = (j : Int)) (hj : j < hL h a) (kk : Ev l G d mc ms M (pc + 1) ls (.int (hX h a j) :: st) h Q) : Ev l G d mc ms M pc ls (.int i :: .ref a :: st) h Q := by
  intro p e R s m args below meth c H locs cells slots lv C a1 a2 a3 a4 hP hS hl
  refine va_zald C.1 C.2.1 C.2.2.2.2.2.2.2.2.1 hP.2.1 (a - 3) 1 (wl_rowI hP hk (Or.inr rfl)) rfl (ix_in hi hj) hdg ?_
  rw [ix_nat hi]
  exact kk p e R s m args below meth c H locs cells slots lv C a1 a2 a3 a4 hP hS hl
theorem Ev_aald {i : Int32} {a kd : Nat} (j : Nat) (hdg : decode M.2.1 pc = .ok (.aaload, 1)) (hk : hK h a = kd) (h1 : 15 ≤ kd) (h2 : kd ≤ 18) (hi : i.toInt = (j : Int)) (hj : j < hL h a) (kk : Ev l G d mc ms M (pc + 1) ls (rv (hY h a j) :: st) h Q) : Ev l G d mc ms M pc ls (.int i :: .ref a :: st) h Q := by
  intro p e R s m args below meth c H locs cells slots lv C a1 a2 a3 a4 hP hS hl
  have hT : ∃ E, kdT kd = .object E := by rcases (show kd = 15 ∨ kd = 16 ∨ kd = 17 ∨ kd = 18 by omega) with rfl | rfl | rfl | rfl <;> exact ⟨_, rfl⟩
  obtain ⟨E, hE⟩ := hT
  refine va_aldq (C := E) C.1 C.2.1 C.2.2.2.2.2.2.2.2.1 hP.2.1 (a - 3) (kd - 13) (wl_rowQ hP hk h1 h2) (by rw [aTy_at G (by omega) h2, hE]) (ix_in hi hj) hdg ?_
  rw [ix_nat hi, ← tv_rv]
  exact kk p e R s m args below meth c H locs cells slots lv C a1 a2 a3 a4 hP hS hl
theorem Ev_alen {a kd : Nat} (hdg : decode M.2.1 pc = .ok (.arraylength, 1)) (hk : hK h a = kd) (h1 : 13 ≤ kd) (h2 : kd ≤ 18) (kk : Ev l G d mc ms M (pc + 1) ls (.int (nI (hL h a)) :: st) h Q) : Ev l G d mc ms M pc ls (.ref a :: st) h Q := by
  intro p e R s m args below meth c H locs cells slots lv C a1 a2 a3 a4 hP hS hl
  by_cases hc : kd = 13 ∨ kd = 14
  · exact va_alen C.1 C.2.1 C.2.2.2.2.2.2.2.2.1 hP.2.1 (a - 3) (kd - 13) (wl_rowI hP hk hc) (aTy_at G h1 h2) rfl hdg (kk p e R s m args below meth c H locs cells slots lv C a1 a2 a3 a4 hP hS hl)
  · exact va_alen C.1 C.2.1 C.2.2.2.2.2.2.2.2.1 hP.2.1 (a - 3) (kd - 13) (wl_rowQ hP hk (by omega) h2) (aTy_at G h1 h2) rfl hdg (kk p e R s m args below meth c H locs cells slots lv C a1 a2 a3 a4 hP hS hl)
theorem Ev_sld {i : Int32} (j : Nat) (hdg : decode M.2.1 pc = .ok (.iaload, 1)) (hi : i.toInt = (j : Int)) (hj : j < gL G) (kk : Ev l G d mc ms M (pc + 1) ls (.int (gX G j) :: st) h Q) : Ev l G d mc ms M pc ls (.int i :: .ref 0 :: st) h Q := by
  intro p e R s m args below meth c H locs cells slots lv C a1 a2 a3 a4 hP hS hl
  have hw := C.2.2.2.2.2.2.2.2
  refine va_sld (A := fun q => gB G ≤ q) (H0 := s.heap) C.1 C.2.1 hw.2.1 (Nat.lt_of_lt_of_le hw.2.2.1 hw.2.2.2.2.2.2.2.1) (by have := hw.2.2.1; omega) hS (ix_in hi hj) hdg ?_
  rw [ix_nat hi]
  exact kk p e R s m args below meth c H locs cells slots lv C a1 a2 a3 a4 hP hS hl
theorem Ev_slen (hdg : decode M.2.1 pc = .ok (.arraylength, 1)) (kk : Ev l G d mc ms M (pc + 1) ls (.int (nI (gL G)) :: st) h Q) : Ev l G d mc ms M pc ls (.ref 0 :: st) h Q := by
  intro p e R s m args below meth c H locs cells slots lv C a1 a2 a3 a4 hP hS hl
  have hw := C.2.2.2.2.2.2.2.2
  exact va_slen (b := gb G) (A := fun q => gB G ≤ q) (H0 := s.heap) C.1 C.2.1 hw.2.1 (Nat.lt_of_lt_of_le hw.2.2.1 hw.2.2.2.2.2.2.2.1) (by have := hw.2.2.1; omega) hS hdg (kk p e R s m args below meth c H locs cells slots lv C a1 a2 a3 a4 hP hS hl)
theorem Ev_elen (hdg : decode M.2.1 pc = .ok (.arraylength, 1)) (kk : Ev l G d mc ms M (pc + 1) ls (.int (nI 0) :: st) h Q) : Ev l G d mc ms M pc ls (.ref 1 :: st) h Q := by
  intro p e R s m args below meth c H locs cells slots lv C a1 a2 a3 a4 hP hS hl
  have hw := C.2.2.2.2.2.2.2.2
  exact va_tlen (A := fun q => gB G ≤ q) C.1 C.2.1 hw.2.2.2.2.1 hS rfl hdg (kk p e R s m args below meth c H locs cells slots lv C a1 a2 a3 a4 hP hS hl)
theorem Ev_gets {idx : Nat} (hdg : decode M.2.1 pc = .ok (.getstatic idx, 3)) (hl0 : Cond.fieldLink M.1.cls idx "java/util/ArrayList" "DEFAULTCAPACITY_EMPTY_ELEMENTDATA" "[Ljava/lang/Object;" ∈ aTs) (kk : Ev l G d mc ms M (pc + 3) ls (.ref 1 :: st) h Q) : Ev l G d mc ms M pc ls st h Q := by
  intro p e R s m args below meth c H locs cells slots lv C a1 a2 a3 a4 hP hS hl
  have hw := C.2.2.2.2.2.2.2.2
  exact va_gets (A := fun q => gB G ≤ q) C.1 C.2.1 hw.2.2.2.1 hS C.2.2.2.2.1 (C.2.2.2.2.2.1 _ hl0) (fun _ h9 => h9) hdg (kk p e R s m args below meth c H locs cells slots lv C a1 a2 a3 a4 hP hS hl)
theorem wl_setX {H : Heap} {a kd : Nat} {f : Nat → Int32} {h' : aH} (hP : aRp G h H) (hk : hK h a = kd) (hc : kd = 13 ∨ kd = 14) (e1 : hN h' = hN h) (e2 : hK h' = hK h) (e3 : hI h' = hI h) (e4 : hR h' = hR h) (e5 : hL h' = hL h) (e6 : hY h' = hY h) (e7 : hX h' a = f) (e8 : ∀ b, b ≠ a → hX h' b = hX h b) : (wl G h).set (a - 3) (ad G a, .inl (gC G kd, hL h a, .inl f)) = wl G h' := by
  obtain ⟨h3, hn⟩ := hP.2.2 a (by rw [hk]; omega)
  rw [← wl_set G (h := h) (h' := h') h3 hn e1 (fun b hb => aCl_eq (by rw [e2]) (fun k => by rw [e3]) (fun k => by rw [e4]) (by rw [e5]) (e8 b hb) (by rw [e6])), aCl_int (h := h') (kd := kd) (by rw [e2]; exact hk) hc, e5, e7]
theorem wl_setY {H : Heap} {a kd : Nat} {f : Nat → Option Nat} {h' : aH} (hP : aRp G h H) (hk : hK h a = kd) (h1 : 15 ≤ kd) (h2 : kd ≤ 18) (e1 : hN h' = hN h) (e2 : hK h' = hK h) (e3 : hI h' = hI h) (e4 : hR h' = hR h) (e5 : hL h' = hL h) (e6 : hX h' = hX h) (e7 : (fun j => (hY h' a j).map (ad G)) = f) (e8 : ∀ b, b ≠ a → hY h' b = hY h b) : (wl G h).set (a - 3) (ad G a, .inl (gC G kd, hL h a, .inr (.inr (.inr (.inr f))))) = wl G h' := by
  obtain ⟨h3, hn⟩ := hP.2.2 a (by rw [hk]; omega)
  rw [← wl_set G (h := h) (h' := h') h3 hn e1 (fun b hb => aCl_eq (by rw [e2]) (fun k => by rw [e3]) (fun k => by rw [e4]) (by rw [e5]) (by rw [e6]) (e8 b hb)), aCl_ref (h := h') (kd := kd) (by rw [e2]; exact hk) h1, e5, e7]
theorem Ev_iast {i x : Int32} {a : Nat} (j : Nat) (hdg : decode M.2.1 pc = .ok (.iastore, 1)) (hk : hK h a = 13) (hi : i.toInt = (j : Int)) (hj : j < hL h a) (kk : Ev l G d mc ms M (pc + 1) ls st (sX h a j x) Q) : Ev l G d mc ms M pc ls (.int x :: .int i :: .ref a :: st) h Q := by
  intro p e R s m args below meth c H locs cells slots lv C a1 a2 a3 a4 hP hS hl
  have ha := wl_rowI hP hk (Or.inl rfl)
  have hD := wl_D G h
  refine W.iast C.1 C.2.1 (hP.2.1 _ _ ha) ((C.2.2.2.2.2.2.2.2.1.2 0 _ rfl).1 (hL h a) (fun j => .int (hX h a j))) (fun q => by cases q) (by show ¬ (i < 0 ∨ (arrV _ _ _).slots.size ≤ _); rw [arrV_size]; exact ix_in hi hj) rfl rfl hdg fun H1 e0 z oq => ?_
  refine kk p e R s m args below meth c H1 _ cells slots lv C a1 a2 a3 a4 (hP.same rfl rfl z ?_) (hS.put z oq (hD.2 _ _ ha)) hl
  rw [← wl_setX (h' := sX h a j x) hP hk (Or.inl rfl) rfl rfl rfl rfl rfl rfl rfl (fun b hb => by
    funext q; exact if_neg hb)]
  refine hP.2.1.set hD ha ?_ oq
  show H1[ad G a]? = some (vp_cell _ _)
  rw [e0, ix_nat hi, vp_cell_i, vp_cell_i, arrV_store]
  congr 2
  funext q
  show updV _ _ _ _ = Value.int (up2 (hX h) a j x a q)
  by_cases hq : q = j
  · subst hq
    simp [updV, up2]
  · simp [updV, up2, hq]
theorem Ev_zast {i x : Int32} {a : Nat} (j : Nat) (hdg : decode M.2.1 pc = .ok (.bastore, 1)) (hk : hK h a = 14) (hx : x = 0 ∨ x = 1) (hi : i.toInt = (j : Int)) (hj : j < hL h a) (kk : Ev l G d mc ms M (pc + 1) ls st (sX h a j x) Q) : Ev l G d mc ms M pc ls (.int x :: .int i :: .ref a :: st) h Q := by
  intro p e R s m args below meth c H locs cells slots lv C a1 a2 a3 a4 hP hS hl
  have ha := wl_rowI hP hk (Or.inr rfl)
  have hD := wl_D G h
  refine W.zast C.1 C.2.1 (hP.2.1 _ _ ha) ((C.2.2.2.2.2.2.2.2.1.2 1 _ rfl).1 (hL h a) (fun j => .int (hX h a j))) (fun q => by cases q) (by show ¬ (i < 0 ∨ (arrV _ _ _).slots.size ≤ _); rw [arrV_size]; exact ix_in hi hj) rfl rfl hdg fun H1 e0 z oq => ?_
  refine kk p e R s m args below meth c H1 _ cells slots lv C a1 a2 a3 a4 (hP.same rfl rfl z ?_) (hS.put z oq (hD.2 _ _ ha)) hl
  rw [← wl_setX (h' := sX h a j x) hP hk (Or.inr rfl) rfl rfl rfl rfl rfl rfl rfl (fun b hb => by
    funext q; exact if_neg hb)]
  refine hP.2.1.set hD ha ?_ oq
  show H1[ad G a]? = some (vp_cell _ _)
  have hnx : narrow .boolean (.int x) = .int x := by rcases hx with rfl | rfl <;> rfl
  rw [e0, hnx, ix_nat hi, vp_cell_i, vp_cell_i, arrV_store]
  congr 2
  funext q
  show updV _ _ _ _ = Value.int (up2 (hX h) a j x a q)
  by_cases hq : q = j
  · subst hq
    simp [updV, up2]
  · simp [updV, up2, hq]
end EV
