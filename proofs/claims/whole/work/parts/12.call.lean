theorem aTs_good : ∀ w ∈ aTs, (w.onTables && w.keeps) = true ∨ ∃ ty, w = .arrayClass ty := fun w hw => good_of_word (List.mem_filter.mp hw).2
def en (n : Nat) (avs : List Value) : List Value := avs ++ List.replicate (n - avs.length) (.retAddr 0)
theorem lg_sl_ok (G : aG) : ∀ {avs : List Value}, avs.all okv = true → lg_sl (avs.map (tv G)) = avs.map (fun v => Slot.val (tv G v)) := by
  intro avs
  induction avs with
  | nil => intro _; rfl
  | cons v avs ih =>
    intro h
    simp only [List.all_cons, Bool.and_eq_true] at h
    have h1 := okv_cat G h.1
    show (if (tv G v).category = 2 then _ else _) ++ lg_sl (avs.map (tv G)) = _
    rw [h1, ih h.2]
    rfl
theorem lv_args_ok (G : aG) : ∀ {avs : List Value} (i : Nat), avs.all okv = true → ∀ (j : Nat) (v : Value), avs[j]? = some v → (i + j, tv G v) ∈ lv_args i (avs.map (tv G)) := by
  intro avs
  induction avs with
  | nil => intro i _ j v hj; simp at hj
  | cons w avs ih =>
    intro i h j v hj
    simp only [List.all_cons, Bool.and_eq_true] at h
    have h1 := okv_cat G h.1
    show _ ∈ (i, tv G w) :: lv_args (if (tv G w).category = 2 then i + 2 else i + 1) (avs.map (tv G))
    rw [h1]
    cases j with
    | zero =>
      simp at hj
      subst hj
      exact List.mem_cons_self
    | succ j =>
      refine List.mem_cons_of_mem _ ?_
      have := ih (i + 1) h.2 j v (by simpa using hj)
      rw [show i + (j + 1) = i + 1 + j by omega]
      exact this
theorem aLv_entry (G : aG) {avs : List Value} {n : Nat} (h : avs.all okv = true) (hn : avs.length ≤ n) : aLv G ((lg_sl (avs.map (tv G)) ++ List.replicate (n - (lg_sl (avs.map (tv G))).length) Slot.unset).toArray) n (en n avs) := by
  have hl : (lg_sl (avs.map (tv G))).length ≤ n := by rw [lg_sl_ok G h, List.length_map]; exact hn
  obtain ⟨h1, h2, h3⟩ := lv_entry (avs.map (tv G)) (n := n) hl
  refine ⟨h1, h2, by simp [en]; omega, fun i v hi hv => ?_⟩
  unfold en at hi
  rw [List.getElem?_append] at hi
  split at hi
  · have := lv_args_ok G 0 h i v hi
    rw [Nat.zero_add] at this
    exact h3 _ this
  · rw [List.getElem?_replicate] at hi
    split at hi
    · cases hi; cases hv
    · cases hi
def aWs (M : aM) : List Cond := Cond.code M.1 M.2.1 M.2.2.1 M.2.2.2 :: aTs
def aPc (G : aG) (avs : List Value) (h : aH) : Array Value → State → Prop := va_Pc (avs.map (tv G)) (fun U => aRp G h U.heap ∧ aWd G U U.heap)
section EV
variable {l : Launch} {G : aG} {d mc ms : Nat} {M : aM} {pc : Nat} {ls st : List Value} {h : aH} {Q : Option Value → aH → Prop}
theorem ev_met {avs : List Value} (hy : plainName M.1.cls = true) (hok : avs.all okv = true) (hn : avs.length ≤ M.2.2.1) (hC : Ev l G d mc ms M 0 (en M.2.2.1 avs) [] h Q) : Met l M.1 (aWs M) ({ frames := d, cells := mc, slots := ms, locals := 40 * d }) (aPc G avs h) (aQ G Q) mc ms (fun q => gB G ≤ q) := by
  refine Met.ofW (cc := M.2.1) (maxL := M.2.2.1) (ret := M.2.2.2) hy rfl ?_
  intro p e s m args below meth c s₁ B hml hv
  obtain ⟨rfl, hRp, hWd⟩ := hv
  have hts := atoms_spec (ws := aWs M) B.pre
  rw [lg_entry_eq]
  exact hC p e _ s m _ below meth c s.heap [] 0 0 _ ⟨B.exec, B.bytes, hml, B.returns, findClass_of_methodNamed B.named, fun w hw => hts w (List.mem_cons_of_mem _ hw), B.notSynchronized, fun hz => (name_of_methodNamed B.named B.method).1.trans hz, hWd⟩ (Nat.le_refl _) (Nat.le_refl _) (Nat.le_of_eq (Nat.zero_add _)) (Nat.le_of_eq (Nat.zero_add _)) hRp va_S.rf (aLv_entry G hok hn)
theorem aPc_blind {avs : List Value} : FrameBlind (aPc G avs h) := by
  intro a U g mk hq
  obtain ⟨h1, h2, h3⟩ := hq
  refine ⟨h1, h2, ?_⟩
  obtain ⟨w1, w2, w3, w4, w5, w6, w7, w8, w9⟩ := h3
  have al : U.vm.Alike (U.calling g mk a).vm := Vm.Alike.refl U.vm
  exact ⟨va_K.moved al w1, w2.moved al, w3, w4.moved al, w5.moved al, w6.moved al, fun w hw hk => (show w.before #[] (U.calling g mk a) = true from by
    have h9 := w7 w hw hk
    cases w with
    | castable => exact va_Nw.same rfl rfl h9
    | methodLinkNest => exact va_Nw.same rfl rfl h9
    | declares => exact va_Nw.same rfl rfl h9
    | arrayOver t => cases t <;> first | (exact va_AO.moved al h9) | (simp [aWk] at hk)
    | _ => simp [aWk] at hk), w8, w9⟩
theorem aPc_pre {avs : List Value} {p : Program} {s : State} {m : MethodId} {args : Array Value} {meth : Method} {c : Code} {H : Heap} {locs : List Loc} (C : aCx G M p s m args meth c) (hP : aRp G h H) (hS : va_S (fun q => gB G ≤ q) s.heap H locs) : ∀ U : State, U.heap = H → s.WarmedH U.vm → aPc G avs h (avs.map (tv G)).toArray U := by
  intro U hU hW
  have hwd := C.2.2.2.2.2.2.2.2
  refine ⟨rfl, by rw [hU]; exact hP, ?_⟩
  rw [hU]
  exact hwd.warm hW (by rw [hP.1]; exact Nat.le_add_right _ _) (fun q hq => hS.2.1 q (Nat.lt_of_lt_of_le hq hwd.2.2.2.2.2.2.2.1) (by omega))
theorem call_fin {p : Program} {e : Env} {R : Room} {s : State} {m : MethodId} {args a : Array Value} {below : List Frame} {meth : Method} {c : Code} {H : Heap} {locs : List Loc} {cells slots : Nat} {lv : Array Slot} {st0 : List Value} {mc1 ms1 : Nat} {Q' : Option Value → aH → Prop} (C : aCx G M p s m args meth c) (a1 : d ≤ R.frames) (a2 : 40 * d ≤ R.locals) (a3 : cells + mc1 + mc ≤ R.cells) (a4 : slots + ms1 + ms ≤ R.slots) (hS : va_S (fun q => gB G ≤ q) s.heap H locs) (hl : aLv G lv M.2.2.1 ls)
    (hr : va_Run p l e R s m args below meth c H locs cells slots mc1 ms1 (F0 m pc lv st0) (st.map (tv G)) (aQ G Q' a) (fun q => gB G ≤ q)) (kk : ∀ v h', Q' v h' → Ev l G d mc ms M (pc + 3) ls (v.toList ++ st) h' Q) : W p l e R s m args below meth c H locs cells slots (MQ below (aQ G Q) args s R.cells R.slots (fun q => gB G ≤ q)) (F0 m pc lv st0) := by
  intro T hT X
  obtain ⟨v, st₀, t, T', L, h0, X', hL, e1, e2, ⟨v', h', e3, hq, hP', hpre, hsz⟩, go⟩ := hr T hT X
  have ev : v = v'.map (tv G) := Outcome.returned.inj e3
  subst ev
  rw [h0] at hpre hsz
  have hwd := C.2.2.2.2.2.2.2.2
  have hst : (v'.map (tv G)).toList ++ st.map (tv G) = List.map (tv G) (v'.toList ++ st) := by cases v' <;> rfl
  rw [hst] at go
  rw [← e1] at hP' hpre hsz
  obtain ⟨t2, b1, b2⟩ := kk v' h' hq p e R s m args below meth c T'.heap (locs ++ L) (cells + mc1) (slots + ms1) lv C a1 a2 (by omega) (by omega) hP' ⟨Nat.le_trans hS.1 hsz, fun q h1 h2 => by
      rw [hpre q (Nat.not_le.mp h2)]
      exact hS.2.1 q h1 h2, fun q hq => by
      rcases List.mem_append.mp hq with h | h
      · exact hS.2.2 q h
      · exact hL q h⟩ hl T' rfl X'
  exact ⟨t2, go t2 b1, b2⟩
/-- the callee's own words -/
def aCo (Mc : aM) (n : Nat) : Prop := Cond.code Mc.1 Mc.2.1 Mc.2.2.1 Mc.2.2.2 ∈ aTs ∧ Cond.initialized Mc.1.cls ∈ aTs ∧ Mc.1.cls ≠ "java/lang/invoke/MethodHandle" ∧ Mc.1.cls ≠ "java/lang/invoke/VarHandle" ∧ (parseMethodDescriptor Mc.1.desc).map (fun d => d.parameters.length) = some n ∧ plainName Mc.1.cls = true ∧ Mc.2.2.1 ≤ 20
theorem aWs_good (M : aM) {n : Nat} (h : aCo M n) : GoodIn aTs (aWs M) := by
  intro w hw
  rcases List.mem_cons.mp hw with e | hw
  · rw [e]; exact ⟨h.1, aTs_good _ h.1⟩
  · exact ⟨hw, aTs_good _ hw⟩
variable {mc1 ms1 idx n : Nat} {Mc : aM} {avs : List Value} {Q' : Option Value → aH → Prop}
theorem Ev_callS (hdg : decode M.2.1 pc = .ok (.invokestatic idx, 3)) (hco : aCo Mc n) (w1 : Cond.methodLink M.1.cls idx Mc.1 ∈ aTs) (w2 : Cond.static Mc.1 ∈ aTs) (hn : avs.length = n) (hok : avs.all okv = true) (hml : n ≤ Mc.2.2.1) (hst : st.all okv = true) (hlen : st.length ≤ 8) (hC : Ev l G d mc1 ms1 Mc 0 (en Mc.2.2.1 avs) [] h Q') (kk : ∀ v h', Q' v h' → Ev l G (d + 1) mc ms M (pc + 3) ls (v.toList ++ st) h' Q) : Ev l G (d + 1) (mc1 + mc) (ms1 + ms) M pc ls (avs.reverse ++ st) h Q := by
  intro p e R s m args below meth c H locs cells slots lv C a1 a2 a3 a4 hP hS hl
  have hts := C.2.2.2.2.2.1
  have hM := ev_met hco.2.2.2.2.2.1 hok (by omega) hC
  refine call_fin (a := (avs.map (tv G)).toArray) (mc1 := mc1) (ms1 := ms1) C a1 a2 (by omega) (by omega) hS hl ?_ kk
  exact va_runS (Ts := aTs) (As := avs.map (tv G)) (rest := st.map (tv G)) ⟨C.1, C.2.1, C.2.2.1, C.2.2.2.2.1, hts⟩ hM ⟨callB_of n hts (aWs_good Mc hco) rfl rfl rfl (hts _ hco.2.1) (hts _ w1) ⟨hco.2.2.1, hco.2.2.2.1, hco.2.2.2.2.1⟩ ⟨a1, by have := hco.2.2.2.2.2.2; show 8 + (Mc.2.2.1 + 11) + 40 * d ≤ R.locals; omega⟩, hts _ w2⟩ ⟨aPc_blind, aPc_pre C hP hS⟩ rfl (by rw [List.length_map]; exact hn) hl.1 (by rw [← List.map_reverse, ← List.map_append]) (lv_room (by rw [cat_sum G hst]; exact hlen)) hdg ⟨by omega, by omega⟩
theorem Ev_callSN {host : String} (hdg : decode M.2.1 pc = .ok (.invokestatic idx, 3)) (hco : aCo Mc n) (w1 : Cond.methodLinkNest M.1.cls idx Mc.1 host ∈ lw_tbl) (w2 : Cond.static Mc.1 ∈ aTs) (hn : avs.length = n) (hok : avs.all okv = true) (hml : n ≤ Mc.2.2.1) (hst : st.all okv = true) (hlen : st.length ≤ 8) (hC : Ev l G d mc1 ms1 Mc 0 (en Mc.2.2.1 avs) [] h Q') (kk : ∀ v h', Q' v h' → Ev l G (d + 1) mc ms M (pc + 3) ls (v.toList ++ st) h' Q) : Ev l G (d + 1) (mc1 + mc) (ms1 + ms) M pc ls (avs.reverse ++ st) h Q := by
  intro p e R s m args below meth c H locs cells slots lv C a1 a2 a3 a4 hP hS hl
  have hts := C.2.2.2.2.2.1
  have hM := ev_met hco.2.2.2.2.2.1 hok (by omega) hC
  refine call_fin (a := (avs.map (tv G)).toArray) (mc1 := mc1) (ms1 := ms1) C a1 a2 (by omega) (by omega) hS hl ?_ kk
  exact va_runSN (Ts := aTs) (As := avs.map (tv G)) (rest := st.map (tv G)) ⟨C.1, C.2.1, C.2.2.1, C.2.2.2.2.1, hts⟩ hM ⟨va_cnB n hts (aWs_good Mc hco) rfl rfl rfl (C.2.2.2.2.2.2.2.2.2.2.2.2.2.2.1 _ w1 rfl) (hts _ hco.2.1) ⟨hco.2.2.1, hco.2.2.2.1, hco.2.2.2.2.1⟩ ⟨a1, by have := hco.2.2.2.2.2.2; show 8 + (Mc.2.2.1 + 11) + 40 * d ≤ R.locals; omega⟩, hts _ w2, trivial⟩ ⟨aPc_blind, aPc_pre C hP hS⟩ rfl (by rw [List.length_map]; exact hn) hl.1 (by rw [← List.map_reverse, ← List.map_append]) (lv_room (by rw [cat_sum G hst]; exact hlen)) hdg ⟨by omega, by omega⟩
theorem Ev_callV {a ci : Nat} {r : vw_C} (hdg : decode M.2.1 pc = .ok (.invokevirtual idx, 3)) (hco : aCo Mc n) (w1 : Cond.methodLink M.1.cls idx Mc.1 ∈ aTs) (w2 : Cond.instanceMethod Mc.1 ∈ aTs) (w3 : Cond.selects r.1 Mc.1 Mc.1 ∈ aTs) (hk : hK h a = ci) (hc : vwCl[ci]? = some r) (hn : avs.length = n) (hok : avs.all okv = true) (hml : n + 1 ≤ Mc.2.2.1) (hst : st.all okv = true) (hlen : st.length ≤ 8) (hC : Ev l G d mc1 ms1 Mc 0 (en Mc.2.2.1 (.ref a :: avs)) [] h Q') (kk : ∀ v h', Q' v h' → Ev l G (d + 1) mc ms M (pc + 3) ls (v.toList ++ st) h' Q) : Ev l G (d + 1) (mc1 + mc) (ms1 + ms) M pc ls (avs.reverse ++ .ref a :: st) h Q := by
  intro p e R s m args below meth c H locs cells slots lv C a1 a2 a3 a4 hP hS hl
  have hts := C.2.2.2.2.2.1
  have hM := ev_met (avs := .ref a :: avs) hco.2.2.2.2.2.1 (by simp only [List.all_cons, hok]; rfl) (by simp; omega) hC
  refine call_fin (a := (Value.ref (ad G a) :: avs.map (tv G)).toArray) (mc1 := mc1) (ms1 := ms1) C a1 a2 (by omega) (by omega) hS hl ?_ kk
  exact va_runV (Ts := aTs) (C := r.1) (b := ad G a) (As := avs.map (tv G)) (rest := st.map (tv G)) ⟨C.1, C.2.1, C.2.2.1, C.2.2.2.2.1, hts⟩ hM ⟨callB_of n hts (aWs_good Mc hco) rfl rfl rfl (hts _ hco.2.1) (hts _ w1) ⟨hco.2.2.1, hco.2.2.2.1, hco.2.2.2.2.1⟩ ⟨a1, by have := hco.2.2.2.2.2.2; show 8 + (Mc.2.2.1 + 11) + 40 * d ≤ R.locals; omega⟩, hts _ w2, hts _ w3⟩ ⟨aPc_blind, aRecv C hP hk hc, aPc_pre C hP hS⟩ rfl (by rw [List.length_map]; exact hn) hl.1 (by rw [← List.map_reverse, List.map_append]; rfl) (lv_room (by rw [cat_sum G hst]; exact hlen)) hdg ⟨by omega, by omega⟩
theorem Ev_callI {a : Nat} (hdg : decode M.2.1 pc = .ok (.invokespecial idx, 3)) (hco : aCo Mc n) (hr : Mc.2.2.2 = none) (hi : Mc.1.name = "<init>") (w1 : Cond.methodLink M.1.cls idx Mc.1 ∈ aTs) (w2 : Cond.instanceMethod Mc.1 ∈ aTs) (hn : avs.length = n) (hok : avs.all okv = true) (hml : n + 1 ≤ Mc.2.2.1) (hst : st.all okv = true) (hlen : st.length ≤ 8) (hC : Ev l G d mc1 ms1 Mc 0 (en Mc.2.2.1 (.ref a :: avs)) [] h Q') (kk : ∀ v h', Q' v h' → Ev l G (d + 1) mc ms M (pc + 3) ls (v.toList ++ st) h' Q) : Ev l G (d + 1) (mc1 + mc) (ms1 + ms) M pc ls (avs.reverse ++ .ref a :: st) h Q := by
  intro p e R s m args below meth c H locs cells slots lv C a1 a2 a3 a4 hP hS hl
  have hts := C.2.2.2.2.2.1
  have hM := ev_met (avs := .ref a :: avs) hco.2.2.2.2.2.1 (by simp only [List.all_cons, hok]; rfl) (by simp; omega) hC
  refine call_fin (a := (Value.ref (ad G a) :: avs.map (tv G)).toArray) (mc1 := mc1) (ms1 := ms1) C a1 a2 (by omega) (by omega) hS hl ?_ kk
  exact va_runI (Ts := aTs) (bytes := Mc.2.1) (maxL := Mc.2.2.1) (b := ad G a) (As := avs.map (tv G)) (rest := st.map (tv G)) ⟨C.1, C.2.1, C.2.2.1, C.2.2.2.2.1, hts⟩ hM ⟨callB_of n hts (aWs_good Mc hco) (by unfold aWs; rw [hr]) rfl rfl (hts _ hco.2.1) (hts _ w1) ⟨hco.2.2.1, hco.2.2.2.1, hco.2.2.2.2.1⟩ ⟨a1, by have := hco.2.2.2.2.2.2; show 8 + (Mc.2.2.1 + 11) + 40 * d ≤ R.locals; omega⟩, hi, hts _ w2⟩ ⟨aPc_blind, aPc_pre (avs := .ref a :: avs) C hP hS⟩ rfl (by rw [List.length_map]; exact hn) hl.1 (by rw [← List.map_reverse, List.map_append]; rfl) (lv_room (by rw [cat_sum G hst]; exact hlen)) hdg ⟨by omega, by omega⟩
theorem Ev_callIN {a : Nat} {host : String} (hdg : decode M.2.1 pc = .ok (.invokespecial idx, 3)) (hco : aCo Mc n) (hr : Mc.2.2.2 = none) (hi : Mc.1.name = "<init>") (w1 : Cond.methodLinkNest M.1.cls idx Mc.1 host ∈ lw_tbl) (w2 : Cond.instanceMethod Mc.1 ∈ aTs) (hn : avs.length = n) (hok : avs.all okv = true) (hml : n + 1 ≤ Mc.2.2.1) (hst : st.all okv = true) (hlen : st.length ≤ 8) (hC : Ev l G d mc1 ms1 Mc 0 (en Mc.2.2.1 (.ref a :: avs)) [] h Q') (kk : ∀ v h', Q' v h' → Ev l G (d + 1) mc ms M (pc + 3) ls (v.toList ++ st) h' Q) : Ev l G (d + 1) (mc1 + mc) (ms1 + ms) M pc ls (avs.reverse ++ .ref a :: st) h Q := by
  intro p e R s m args below meth c H locs cells slots lv C a1 a2 a3 a4 hP hS hl
  have hts := C.2.2.2.2.2.1
  have hM := ev_met (avs := .ref a :: avs) hco.2.2.2.2.2.1 (by simp only [List.all_cons, hok]; rfl) (by simp; omega) hC
  refine call_fin (a := (Value.ref (ad G a) :: avs.map (tv G)).toArray) (mc1 := mc1) (ms1 := ms1) C a1 a2 (by omega) (by omega) hS hl ?_ kk
  exact va_runIN (Ts := aTs) (bytes := Mc.2.1) (maxL := Mc.2.2.1) (b := ad G a) (As := avs.map (tv G)) (rest := st.map (tv G)) ⟨C.1, C.2.1, C.2.2.1, C.2.2.2.2.1, hts⟩ hM ⟨va_cnB n hts (aWs_good Mc hco) (by unfold aWs; rw [hr]) rfl rfl (C.2.2.2.2.2.2.2.2.2.2.2.2.2.2.1 _ w1 rfl) (hts _ hco.2.1) ⟨hco.2.2.1, hco.2.2.2.1, hco.2.2.2.2.1⟩ ⟨a1, by have := hco.2.2.2.2.2.2; show 8 + (Mc.2.2.1 + 11) + 40 * d ≤ R.locals; omega⟩, hi, hts _ w2⟩ ⟨aPc_blind, aPc_pre (avs := .ref a :: avs) C hP hS⟩ rfl (by rw [List.length_map]; exact hn) hl.1 (by rw [← List.map_reverse, List.map_append]; rfl) (lv_room (by rw [cat_sum G hst]; exact hlen)) hdg ⟨by omega, by omega⟩
end EV
