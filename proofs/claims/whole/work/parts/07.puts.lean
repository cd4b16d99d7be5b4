section EV
variable {l : Launch} {G : aG} {d mc ms : Nat} {M : aM} {pc : Nat} {ls st : List Value} {h : aH} {Q : Option Value → aH → Prop}
/-- a field is written: by the machine's row, with the sizes -/
theorem put_core {p : Program} {e : Env} {R : Room} {s : State} {m : MethodId} {args : Array Value} {below : List Frame} {meth : Method} {c : Code} {H : Heap} {locs : List Loc} {cells slots : Nat} {lv : Array Slot} {Z : State → Prop} {rest : List Value} {idx ci j a : Nat} {K : String} {T : u_T} {N : Nat} {ref : String} {v : Value} (C : aCx G M p s m args meth c) (q1 : vwCl[ci]? = some (K, T, N)) (q2 : j < N) (q5 : Cond.fieldLink M.1.cls idx ref (T j).2.1 (T j).2.2.1 ∈ aTs) (q6 : ref = (T j).1 ∨ Cond.sameField ref (T j).1 (T j).2.1 (T j).2.2.1 ∈ aTs) (hfin : (T j).2.2.2 = false ∨ (M.1.name = "<init>" ∧ (T j).1 = M.1.cls)) (hk : hK h a = ci) (hn1 : narrow (fT ci j) v = v) (hfit : fits (fT ci j) v = true) (hP : aRp G h H) (hS : va_S (fun q => gB G ≤ q) s.heap H locs) (hdg : decode M.2.1 pc = .ok (.putfield idx, 3))
    (kk : ∀ (H1 : Heap) (locs1 : List Loc), H1.size = H.size → va_P (gD G) vwCl ((wl G h).set (a - 3) (ad G a, .inr (ci, (fvs G h ci a).set j v))) H1 → va_S (fun q => gB G ≤ q) s.heap H1 locs1 → W p l e R s m args below meth c H1 locs1 cells slots Z (F0 m (pc + 3) lv rest)) : W p l e R s m args below meth c H locs cells slots Z (F0 m pc lv (v :: .ref (ad G a) :: rest)) := by
  have hc := vw_lt q1
  obtain ⟨h3, hn⟩ := hP.2.2 a (by rw [hk]; omega)
  have hts := C.2.2.2.2.2.1
  have hin := us_in q1
  obtain ⟨hty, hnm⟩ := ty_all q1
  have hKK := C.2.2.2.2.2.2.2.2.1
  have he : (wl G h)[a - 3]? = some (ad G a, .inr (ci, fvs G h ci a)) := by rw [wl_get G h3 hn, aCl_obj hk hc]
  have hap := va_apart (own := M.1.cls) hts hin (fT ci) hty hnm hKK q1
  obtain ⟨r, h1, cell, w1, w2, w3, w4⟩ := hP.2.1 (a - 3) _ he
  have hr : r = (K, T, N) := Option.some.inj (h1.symm.trans q1)
  subst hr
  obtain ⟨hSl, hfc, kC, hkC, hkind⟩ := hKK.1 ci _ q1
  obtain ⟨cf, kf, fi, f, hi, hsl⟩ := hSl j q2
  have hst := (u_facts hfc hkC (u_lays hts hin q2) hi).1
  have hd := hty j q2
  have hD := wl_D G h
  have hsm := hsame_of (n := (T j).2.1) (dd := (T j).2.2.1) hts q6
  have hlj : j < (fvs G h ci a).length := by rw [fvs_len, fn_eq q1]; exact q2
  have done : ∀ H' : Heap, H'[ad G a]? = some (cell.setSlot f.slot v) → H'.size = H.size → (∀ q, q ≠ ad G a → H'[q]? = H[q]?) → W p l e R s m args below meth c H' (locs ++ [⟨ad G a, f.slot⟩]) cells slots Z (F0 m (pc + 3) lv rest) := by
    intro H' e1 e2 e3
    rw [hsl] at e1 ⊢
    exact kk H' _ e2 (hP.2.1.set hD he ⟨_, q1, t_OB.to (V := updV (vp_V (fvs G h ci a)) j v) ⟨_, e1, w2, w3, t_set w4 hap q2 v⟩ (fun i _ => vp_updV_set hlj v i)⟩ e3) (hS.put e2 e3 (hD.2 (a - 3) _ he))
  by_cases hf : (T j).2.2.2 = true
  · rcases hfin with hz | ⟨hz1, hz2⟩
    · rw [hz] at hf; cases hf
    have hlay := hts _ (hin _ (u_in_lay q2))
    unfold u_lay at hlay
    rw [if_pos hf] at hlay
    have hcf : m.cls = cf := by
      obtain ⟨_, _, c', _, _, _, -, -, hf', -, -, -, hown2, -⟩ := Cond.laysFinal_spec hlay
      have e1 : c' = cf := by have := hi.symm.trans hf'; simp at this; exact this.1.symm
      rw [hz2] at hown2
      rw [← e1]; exact Option.some.inj (C.2.2.2.2.1.symm.trans hown2)
    have h6 := u_fits hfc hkC hkind (Or.inr hlay) hi hd hn1 hfit
    exact W.putFinK C.1 C.2.1 C.2.2.2.2.1 (hts _ q5) (hsm _ hi) hst hcf (C.2.2.2.2.2.2.2.1 hz1) (by rw [w2]; exact h6) w1 w3 (by rw [hsl]; exact k2_hasslot (w4 j q2)) rfl rfl hdg done
  · have hlay := hts _ (hin _ (u_in_lay q2))
    unfold u_lay at hlay
    rw [if_neg hf] at hlay
    have h6 := u_store hfc hkC hkind hlay hi hd hn1 hfit
    exact W.putK C.1 C.2.1 (f := f) ⟨C.2.2.2.2.1, hts _ q5, ⟨_, _, _, hsm _ hi⟩, hst⟩ (by rw [w2]; exact h6) w1 w3 (by rw [hsl]; exact k2_hasslot (w4 j q2)) rfl rfl hdg done
/-- may this field be written here? -/
def aFw (M : aM) (ci j : Nat) : Prop := ∃ r : vw_C, vwCl[ci]? = some r ∧ ((r.2.1 j).2.2.2 = false ∨ (M.1.name = "<init>" ∧ (r.2.1 j).1 = M.1.cls))
theorem Ev_putI {idx ci j f a : Nat} {x : Int32} (hdg : decode M.2.1 pc = .ok (.putfield idx, 3)) (hf : aFl M.1.cls idx ci j f false) (hw : aFw M ci j) (hx : fT ci j = .int ∨ (fT ci j = .boolean ∧ (x = 0 ∨ x = 1))) (hk : hK h a = ci) (kk : Ev l G d mc ms M (pc + 3) ls st (sI h f a x) Q) : Ev l G d mc ms M pc ls (.int x :: .ref a :: st) h Q := by
  intro p e R s m args below meth c H locs cells slots lv C a1 a2 a3 a4 hP hS hl
  obtain ⟨K, T, N, ref, q1, q2, q3, q4, q5, q6⟩ := hf
  obtain ⟨r, r1, r2⟩ := hw
  have hr : r = (K, T, N) := Option.some.inj (r1.symm.trans q1)
  subst hr
  obtain ⟨h3, hn⟩ := hP.2.2 a (by rw [hk]; have := vw_lt q1; omega)
  refine put_core (v := .int x) C q1 q2 q5 q6 r2 hk ?_ ?_ hP hS hdg (fun H1 locs1 hz hw1 hS1 => kk p e R s m args below meth c H1 locs1 cells slots lv C a1 a2 a3 a4 (hP.same rfl rfl hz ?_) hS1 hl)
  · rcases hx with hx | ⟨hx, rfl | rfl⟩ <;> rw [hx] <;> rfl
  · rcases hx with hx | ⟨hx, rfl | rfl⟩ <;> rw [hx] <;> rfl
  · rw [← wl_setI q1 q2 q3 q4 hk h3 hn]; exact hw1
theorem rf_fit {ty : FieldType} (h : rfT ty = true) (G : aG) (x : Option Nat) : narrow ty (tv G (rv x)) = tv G (rv x) ∧ fits ty (tv G (rv x)) = true := by
  cases ty <;> first | (cases x <;> exact ⟨rfl, rfl⟩) | (simp [rfT] at h)
theorem Ev_putR {idx ci j f a : Nat} {x : Option Nat} {v : Value} (hdg : decode M.2.1 pc = .ok (.putfield idx, 3)) (hf : aFl M.1.cls idx ci j f true) (hw : aFw M ci j) (hk : hK h a = ci) (hv : v = rv x) (kk : Ev l G d mc ms M (pc + 3) ls st (sR h f a x) Q) : Ev l G d mc ms M pc ls (v :: .ref a :: st) h Q := by
  subst hv
  intro p e R s m args below meth c H locs cells slots lv C a1 a2 a3 a4 hP hS hl
  obtain ⟨K, T, N, ref, q1, q2, q3, q4, q5, q6⟩ := hf
  obtain ⟨r, r1, r2⟩ := hw
  have hr : r = (K, T, N) := Option.some.inj (r1.symm.trans q1)
  subst hr
  obtain ⟨h3, hn⟩ := hP.2.2 a (by rw [hk]; have := vw_lt q1; omega)
  refine put_core (v := tv G (rv x)) C q1 q2 q5 q6 r2 hk (rf_fit q4 G x).1 (rf_fit q4 G x).2 hP hS hdg (fun H1 locs1 hz hw1 hS1 => kk p e R s m args below meth c H1 locs1 cells slots lv C a1 a2 a3 a4 (hP.same rfl rfl hz ?_) hS1 hl)
  rw [← wl_setR q1 q2 q3 q4 hk h3 hn]; exact hw1
end EV
