/-! fields and rows -/
theorem us_in {ci : Nat} {r : vw_C} (h : vwCl[ci]? = some r) : ∀ w ∈ u_ws r.1 r.2.1 r.2.2, w ∈ aTs := by
  have h1 := List.all_eq_true.mp us_all r (List.mem_of_getElem? h)
  intro w hw
  exact of_decide_eq_true (List.all_eq_true.mp h1 w hw)
theorem vw_lt {ci : Nat} {r : vw_C} (h : vwCl[ci]? = some r) : ci < 13 := (List.getElem?_eq_some_iff.mp h).1
theorem fn_eq {ci : Nat} {r : vw_C} (h : vwCl[ci]? = some r) : fn ci = r.2.2 := by unfold fn; rw [h]
theorem ty_all {ci : Nat} {r : vw_C} (h : vwCl[ci]? = some r) : (∀ k, k < r.2.2 → parseFieldDescriptor (r.2.1 k).2.2.1 = some (fT ci k)) ∧ (∀ a, a < r.2.2 → ∀ b, b < r.2.2 → a ≠ b → (r.2.1 a).2.1 ≠ (r.2.1 b).2.1) := by
  have hl := vw_lt h
  match ci, h with
  | 0, h => cases h; exact ⟨tyJx4a65c_ok, nmJx4a65c⟩
  | 1, h => cases h; exact ⟨tyX0_ok, nmX0⟩
  | 2, h => cases h; exact ⟨tyX1_ok, nmX1⟩
  | 3, h => cases h; exact ⟨tyX2_ok, nmX2⟩
  | 4, h => cases h; exact ⟨tyX3_ok, nmX3⟩
  | 5, h => cases h; exact ⟨tyX4_ok, nmX4⟩
  | 6, h => cases h; exact ⟨tyX5_ok, nmX5⟩
  | 7, h => cases h; exact ⟨tyX6_ok, nmX6⟩
  | 8, h => cases h; exact ⟨tyX7_ok, nmX7⟩
  | 9, h => cases h; exact ⟨tyX8_ok, nmX8⟩
  | 10, h => cases h; exact ⟨tyX9_ok, nmX9⟩
  | 11, h => cases h; exact ⟨tyX10_ok, nmX10⟩
  | 12, h => cases h; exact ⟨tyX11_ok, nmX11⟩
  | n + 13, h => exact absurd hl (by omega)
theorem fld_lt {ci : Nat} {r : vw_C} (h : vwCl[ci]? = some r) : r.2.2 < 64 := by
  have hl := vw_lt h
  match ci, h with
  | 0, h | 1, h | 2, h | 3, h | 4, h | 5, h | 6, h | 7, h | 8, h | 9, h | 10, h | 11, h | 12, h => cases h; decide
  | n + 13, h => exact absurd hl (by omega)
def fvs (G : aG) (h : aH) (ci a : Nat) : List Value := (List.range (fn ci)).map (fun j => fv G h ci j a)
theorem fvs_at {G : aG} {h : aH} {ci a j : Nat} (hj : j < fn ci) : (fvs G h ci a)[j]? = some (fv G h ci j a) := by
  unfold fvs
  rw [List.getElem?_map, List.getElem?_range hj]; rfl
theorem fvs_len {G : aG} {h : aH} {ci a : Nat} : (fvs G h ci a).length = fn ci := by simp [fvs]
theorem fvs_set {G : aG} {h h' : aH} {ci a j : Nat} {v : Value} (hj : j < fn ci) (e : fv G h' ci j a = v) (o : ∀ i, i < fn ci → i ≠ j → fv G h' ci i a = fv G h ci i a) : (fvs G h ci a).set j v = fvs G h' ci a := by
  apply List.ext_getElem?
  intro i
  rw [List.getElem?_set, fvs_len]
  by_cases hi : j = i
  · subst hi
    rw [if_pos rfl, if_pos hj, fvs_at hj, e]
  · rw [if_neg hi]
    by_cases hl : i < fn ci
    · rw [fvs_at hl, fvs_at hl, o i hl (Ne.symm hi)]
    · rw [List.getElem?_eq_none (by rw [fvs_len]; omega), List.getElem?_eq_none (by rw [fvs_len]; omega)]
theorem aCl_obj {G : aG} {h : aH} {ci a : Nat} (hk : hK h a = ci) (hc : ci < 13) : aCl G h a = .inr (ci, fvs G h ci a) := by
  unfold aCl
  rw [hk, if_pos hc]; rfl
theorem aCl_int {G : aG} {h : aH} {kd a : Nat} (hk : hK h a = kd) (hc : kd = 13 ∨ kd = 14) : aCl G h a = .inl (gC G kd, hL h a, .inl (hX h a)) := by
  unfold aCl
  rw [hk, if_neg (by omega), if_pos (by omega)]
theorem aCl_ref {G : aG} {h : aH} {kd a : Nat} (hk : hK h a = kd) (hc : 15 ≤ kd) : aCl G h a = .inl (gC G kd, hL h a, .inr (.inr (.inr (.inr (fun j => (hY h a j).map (ad G)))))) := by
  unfold aCl
  rw [hk, if_neg (by omega), if_neg (by omega)]
/-- a cell by its parts -/
theorem aCl_eq {G : aG} {h h' : aH} {b : Nat} (e1 : hK h' b = hK h b) (e2 : ∀ k, hI h' k b = hI h k b) (e3 : ∀ k, hR h' k b = hR h k b) (e4 : hL h' b = hL h b) (e5 : hX h' b = hX h b) (e6 : hY h' b = hY h b) : aCl G h' b = aCl G h b := by
  unfold aCl fv
  simp only [e1, e2, e3, e4, e5, e6]
theorem up1_s {α : Type} (f : Nat → α) (a : Nat) (v : α) : up1 f a v a = v := if_pos rfl
theorem up1_n {α : Type} (f : Nat → α) {a b : Nat} (v : α) (e : b ≠ a) : up1 f a v b = f b := if_neg e
theorem up2_s {α : Type} (f : Nat → Nat → α) (k a : Nat) (v : α) : up2 f k a v k a = v := by simp [up2]
theorem up2_n {α : Type} (f : Nat → Nat → α) {k a k' b : Nat} (v : α) (e : b ≠ a) : up2 f k a v k' b = f k' b := by simp [up2, e]
theorem up2_k {α : Type} (f : Nat → Nat → α) {k a k' b : Nat} (v : α) (e : k' ≠ k) : up2 f k a v k' b = f k' b := by simp [up2, e]
/-- a field's number among the heap's: by the place in the constant table of a class -/
def aFl (own : String) (idx ci j f : Nat) (rf : Bool) : Prop := ∃ (C : String) (T : u_T) (N : Nat) (ref : String), vwCl[ci]? = some (C, T, N) ∧ j < N ∧ f = 64 * ci + j ∧ rfT (fT ci j) = rf ∧ Cond.fieldLink own idx ref (T j).2.1 (T j).2.2.1 ∈ aTs ∧ (ref = (T j).1 ∨ Cond.sameField ref (T j).1 (T j).2.1 (T j).2.2.1 ∈ aTs)
section EV
variable {l : Launch} {G : aG} {d mc ms : Nat} {M : aM} {pc : Nat} {ls st : List Value} {h : aH} {Q : Option Value → aH → Prop}
theorem hsame_of {s : State} {args : Array Value} {ref C n dd : String} (hts : ∀ w ∈ aTs, w.before args s = true) (hr : ref = C ∨ Cond.sameField ref C n dd ∈ aTs) : ∀ x, s.fieldFound? C n dd = some x → s.fieldFound? ref n dd = some x := by
  rcases hr with rfl | hr
  · exact fun _ h => h
  · exact fun x hx => u_same (hts _ hr) x hx
theorem Ev_getI {idx ci j f a : Nat} (hdg : decode M.2.1 pc = .ok (.getfield idx, 3)) (hf : aFl M.1.cls idx ci j f false) (hk : hK h a = ci) (kk : Ev l G d mc ms M (pc + 3) ls (.int (hI h f a) :: st) h Q) : Ev l G d mc ms M pc ls (.ref a :: st) h Q := by
  intro p e R s m args below meth c H locs cells slots lv C a1 a2 a3 a4 hP hS hl
  obtain ⟨K, T, N, ref, q1, q2, q3, q4, q5, q6⟩ := hf
  have hc := vw_lt q1
  obtain ⟨h3, hn⟩ := hP.2.2 a (by rw [hk]; omega)
  refine va_get (D := gD G) (ci := ci) (v := .int (hI h f a)) (C := K) (T := T) (N := N) (fs := fvs G h ci a) C.1 C.2.1 C.2.2.2.2.2.1 (us_in q1) C.2.2.2.2.1 C.2.2.2.2.2.2.2.2.1 hP.2.1 (a - 3) (by rw [wl_get G h3 hn, aCl_obj hk hc]) q1 j q2 (C.2.2.2.2.2.1 _ q5) (hsame_of C.2.2.2.2.2.1 q6) ?_ hdg (kk p e R s m args below meth c H locs cells slots lv C a1 a2 a3 a4 hP hS hl)
  rw [fvs_at (by rw [fn_eq q1]; exact q2)]
  unfold fv
  rw [if_neg (by rw [q4]; decide), q3]
theorem Ev_getR {idx ci j f a : Nat} (hdg : decode M.2.1 pc = .ok (.getfield idx, 3)) (hf : aFl M.1.cls idx ci j f true) (hk : hK h a = ci) (kk : Ev l G d mc ms M (pc + 3) ls (rv (hR h f a) :: st) h Q) : Ev l G d mc ms M pc ls (.ref a :: st) h Q := by
  intro p e R s m args below meth c H locs cells slots lv C a1 a2 a3 a4 hP hS hl
  obtain ⟨K, T, N, ref, q1, q2, q3, q4, q5, q6⟩ := hf
  have hc := vw_lt q1
  obtain ⟨h3, hn⟩ := hP.2.2 a (by rw [hk]; omega)
  refine va_get (D := gD G) (ci := ci) (v := tv G (rv (hR h f a))) (C := K) (T := T) (N := N) (fs := fvs G h ci a) C.1 C.2.1 C.2.2.2.2.2.1 (us_in q1) C.2.2.2.2.1 C.2.2.2.2.2.2.2.2.1 hP.2.1 (a - 3) (by rw [wl_get G h3 hn, aCl_obj hk hc]) q1 j q2 (C.2.2.2.2.2.1 _ q5) (hsame_of C.2.2.2.2.2.1 q6) ?_ hdg (kk p e R s m args below meth c H locs cells slots lv C a1 a2 a3 a4 hP hS hl)
  rw [fvs_at (by rw [fn_eq q1]; exact q2)]
  unfold fv
  rw [if_pos q4, q3, tv_rv]
theorem wl_setI {h : aH} {ci j f a : Nat} {x : Int32} {r : vw_C} (q1 : vwCl[ci]? = some r) (q2 : j < r.2.2) (q3 : f = 64 * ci + j) (q4 : rfT (fT ci j) = false) (hk : hK h a = ci) (h3 : 3 ≤ a) (hn : a < hN h + 3) : (wl G h).set (a - 3) (ad G a, .inr (ci, (fvs G h ci a).set j (.int x))) = wl G (sI h f a x) := by
  have hc := vw_lt q1
  have hj : j < fn ci := by rw [fn_eq q1]; exact q2
  have e0 : fvs G (sI h f a x) ci a = (fvs G h ci a).set j (.int x) := by
    symm
    refine fvs_set hj ?_ (fun i hi hij => ?_)
    · unfold fv
      rw [if_neg (by rw [q4]; decide), ← q3]
      show Value.int (up2 (hI h) f a x f a) = _
      rw [up2_s]
    · unfold fv
      have : hI (sI h f a x) (64 * ci + i) a = hI h (64 * ci + i) a := by
        show up2 (hI h) f a x _ _ = _
        exact up2_k _ _ (by omega)
      rw [this]; rfl
  rw [← e0]
  have := wl_set G (h := h) (h' := sI h f a x) h3 hn rfl (fun b hb => aCl_eq rfl (fun k => up2_n _ _ hb) (fun _ => rfl) rfl rfl rfl)
  rw [← this, aCl_obj (h := sI h f a x) hk hc]
theorem wl_setR {h : aH} {ci j f a : Nat} {x : Option Nat} {r : vw_C} (q1 : vwCl[ci]? = some r) (q2 : j < r.2.2) (q3 : f = 64 * ci + j) (q4 : rfT (fT ci j) = true) (hk : hK h a = ci) (h3 : 3 ≤ a) (hn : a < hN h + 3) : (wl G h).set (a - 3) (ad G a, .inr (ci, (fvs G h ci a).set j (tv G (rv x)))) = wl G (sR h f a x) := by
  have hc := vw_lt q1
  have hj : j < fn ci := by rw [fn_eq q1]; exact q2
  have e0 : fvs G (sR h f a x) ci a = (fvs G h ci a).set j (tv G (rv x)) := by
    symm
    refine fvs_set hj ?_ (fun i hi hij => ?_)
    · unfold fv
      rw [if_pos q4, ← q3, tv_rv]
      show va_rf ((up2 (hR h) f a x f a).map (ad G)) = _
      rw [up2_s]
    · unfold fv
      have : hR (sR h f a x) (64 * ci + i) a = hR h (64 * ci + i) a := by
        show up2 (hR h) f a x _ _ = _
        exact up2_k _ _ (by omega)
      rw [this]; rfl
  rw [← e0]
  have := wl_set G (h := h) (h' := sR h f a x) h3 hn rfl (fun b hb => aCl_eq rfl (fun _ => rfl) (fun k => up2_n _ _ hb) rfl rfl rfl)
  rw [← this, aCl_obj (h := sR h f a x) hk hc]
theorem aRp.same {H H1 : Heap} {h h' : aH} (hP : aRp G h H) (e : hN h' = hN h) (ek : hK h' = hK h) (hz : H1.size = H.size) (hw : va_P (gD G) vwCl (wl G h') H1) : aRp G h' H1 := ⟨by rw [hz, e]; exact hP.1, hw, fun a ha => by rw [e]; exact hP.2.2 a (by rw [← ek]; exact ha)⟩
end EV
