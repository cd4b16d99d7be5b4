/-! the machine at a place of a method, over the heap by fields -/
def aTs : List Cond := lw_tbl.filter goodWord
theorem aTs_mem {w : Cond} (i : Nat) (h : lw_tbl[i]? = some w) (hg : goodWord w = true) : w ∈ aTs := List.mem_filter.mpr ⟨List.mem_of_getElem? h, hg⟩
def aRp (G : aG) (h : aH) (H : Heap) : Prop := H.size = gB G + hN h ∧ va_P (gD G) vwCl (wl G h) H ∧ ∀ a, hK h a ≠ 99 → 3 ≤ a ∧ a < hN h + 3
def aQ (G : aG) (Q : Option Value → aH → Prop) : Array Value → State → Outcome → State → Prop := fun _ s0 oc t => ∃ (v : Option Value) (h' : aH), oc = .returned (v.map (tv G)) ∧ Q v h' ∧ aRp G h' t.heap ∧ (∀ q, q < gB G → t.heap[q]? = s0.heap[q]?) ∧ s0.heap.size ≤ t.heap.size
def okv : Value → Bool
  | .int _ => true
  | .ref _ => true
  | .null => true
  | _ => false
theorem okv_cat (G : aG) {v : Value} (h : okv v = true) : (tv G v).category = 1 := by cases v <;> first | rfl | (simp [okv] at h)
def aLv (G : aG) (lv : Array Slot) (n : Nat) (ls : List Value) : Prop := lv.size = n ∧ lv_wf lv ∧ ls.length ≤ n ∧ ∀ (i : Nat) (v : Value), ls[i]? = some v → okv v = true → lv[i]? = some (.val (tv G v))
def lp (G : aG) (ls : List Value) : List (Nat × Value) := (List.range ls.length).filterMap (fun i => match ls[i]? with
  | some v => if okv v = true then some (i, tv G v) else none
  | none => none)
theorem lp_mem {G : aG} {ls : List Value} {q : Nat × Value} : q ∈ lp G ls ↔ ∃ v, ls[q.1]? = some v ∧ okv v = true ∧ q.2 = tv G v := by
  unfold lp
  rw [List.mem_filterMap]
  constructor
  · rintro ⟨i, hi, hq⟩
    cases hv : ls[i]? with
    | none => rw [hv] at hq; cases hq
    | some v =>
      rw [hv] at hq
      by_cases ho : okv v = true
      · simp only [ho, if_true] at hq
        cases hq
        exact ⟨v, hv, ho, rfl⟩
      · simp only [ho] at hq
        cases hq
  · rintro ⟨v, hv, ho, hq⟩
    refine ⟨q.1, List.mem_range.mpr (List.getElem?_eq_some_iff.mp hv).1, ?_⟩
    rw [hv]
    simp only [ho, if_true]
    rw [← hq]
theorem aLv.has {G : aG} {lv : Array Slot} {n : Nat} {ls : List Value} (h : aLv G lv n ls) : lv_has lv n (lp G ls) := by
  refine ⟨h.1, h.2.1, fun q hq => ?_⟩
  obtain ⟨v, h1, h2, h3⟩ := lp_mem.mp hq
  rw [h3]
  exact h.2.2.2 q.1 v h1 h2
theorem aLv.put {G : aG} {lv lv' : Array Slot} {n i : Nat} {ls : List Value} {v : Value} (h : aLv G lv n ls) (hv : okv v = true) (hs : lv_has lv' n ((i, tv G v) :: (lp G ls).filter (fun q => !(q.1 == i) && !(q.1 + 1 == i && q.2.category == 2)))) : aLv G lv' n (ls.set i v) := by
  refine ⟨hs.1, hs.2.1, by rw [List.length_set]; exact h.2.2.1, fun j w hj hw => ?_⟩
  rw [List.getElem?_set] at hj
  by_cases hi : i = j
  · subst hi
    rw [if_pos rfl] at hj
    split at hj
    · cases hj
      exact hs.2.2 (i, tv G v) List.mem_cons_self
    · cases hj
  · rw [if_neg hi] at hj
    refine hs.2.2 (j, tv G w) (List.mem_cons_of_mem _ (List.mem_filter.mpr ⟨lp_mem.mpr ⟨w, hj, hw, rfl⟩, ?_⟩))
    have h1 : (tv G w).category = 1 := okv_cat G hw
    simp only [h1]
    simp [Ne.symm hi]
def aCx (G : aG) (M : aM) (p : Program) (s : State) (m : MethodId) (args : Array Value) (meth : Method) (c : Code) : Prop :=
  p.tables.exec = Jvm.exec ∧ c.code = M.2.1 ∧ c.maxLocals = M.2.2.1 ∧ meth.sig.returnType = M.2.2.2 ∧ s.vm.findClass M.1.cls = some m.cls ∧ (∀ w ∈ aTs, w.before args s = true) ∧ meth.locks = false ∧ (M.1.name = "<init>" → meth.name = "<init>") ∧ aWd G s s.heap
def Ev (l : Launch) (G : aG) (d mc ms : Nat) (M : aM) (pc : Nat) (ls st : List Value) (h : aH) (Q : Option Value → aH → Prop) : Prop :=
  ∀ (p : Program) (e : Env) (R : Room) (s : State) (m : MethodId) (args : Array Value) (below : List Frame) (meth : Method) (c : Code) (H : Heap) (locs : List Loc) (cells slots : Nat) (lv : Array Slot),
    aCx G M p s m args meth c → d ≤ R.frames → 40 * d ≤ R.locals → cells + mc ≤ R.cells → slots + ms ≤ R.slots → aRp G h H → va_S (fun q => gB G ≤ q) s.heap H locs → aLv G lv M.2.2.1 ls →
    W p l e R s m args below meth c H locs cells slots (MQ below (aQ G Q) args s R.cells R.slots (fun q => gB G ≤ q)) (F0 m pc lv (st.map (tv G)))
section EV
variable {l : Launch} {G : aG} {d mc ms : Nat} {M : aM} {pc : Nat} {ls st : List Value} {h : aH} {Q : Option Value → aH → Prop}
theorem Ev.wide {mc' ms' : Nat} (h1 : mc' ≤ mc) (h2 : ms' ≤ ms) (k : Ev l G d mc' ms' M pc ls st h Q) : Ev l G d mc ms M pc ls st h Q :=
  fun p e R s m args below meth c H locs cells slots lv C a1 a2 a3 a4 hP hS hl => k p e R s m args below meth c H locs cells slots lv C a1 a2 (by omega) (by omega) hP hS hl
theorem Ev.deep {d' : Nat} (h1 : d' ≤ d) (k : Ev l G d' mc ms M pc ls st h Q) : Ev l G d mc ms M pc ls st h Q :=
  fun p e R s m args below meth c H locs cells slots lv C a1 a2 a3 a4 hP hS hl => k p e R s m args below meth c H locs cells slots lv C (by omega) (by omega) a3 a4 hP hS hl
theorem Ev.post {Q' : Option Value → aH → Prop} (hq : ∀ v h', Q' v h' → Q v h') (k : Ev l G d mc ms M pc ls st h Q') : Ev l G d mc ms M pc ls st h Q := by
  intro p e R s m args below meth c H locs cells slots lv C a1 a2 a3 a4 hP hS hl T hT X
  obtain ⟨t, b1, o, b2, b3, ⟨v, h', b4, b5, b6⟩, b7⟩ := k p e R s m args below meth c H locs cells slots lv C a1 a2 a3 a4 hP hS hl T hT X
  exact ⟨t, b1, o, b2, b3, ⟨v, h', b4, hq v h' b5, b6⟩, b7⟩
theorem Ev_aload_n {k : Fin 4} {v : Value} (hdg : decode M.2.1 pc = .ok (.aload_n k, 1)) (hv : ls[(k : Nat)]? = some v) (hr : (v = .null ∨ ∃ a, v = .ref a)) (kk : Ev l G d mc ms M (pc + 1) ls (v :: st) h Q) : Ev l G d mc ms M pc ls st h Q := by
  intro p e R s m args below meth c H locs cells slots lv C a1 a2 a3 a4 hP hS hl
  rcases hr with rfl | ⟨a, rfl⟩
  · exact lv_aload_nN C.1 C.2.1 hdg rfl (hl.2.2.2 _ _ hv rfl) (kk p e R s m args below meth c H locs cells slots lv C a1 a2 a3 a4 hP hS hl)
  · exact lv_aload_n C.1 C.2.1 hdg rfl (hl.2.2.2 _ _ hv rfl) (kk p e R s m args below meth c H locs cells slots lv C a1 a2 a3 a4 hP hS hl)
theorem Ev_aload {k : Nat} {v : Value} (hdg : decode M.2.1 pc = .ok (.aload k, 2)) (hv : ls[(k : Nat)]? = some v) (hr : (v = .null ∨ ∃ a, v = .ref a)) (kk : Ev l G d mc ms M (pc + 2) ls (v :: st) h Q) : Ev l G d mc ms M pc ls st h Q := by
  intro p e R s m args below meth c H locs cells slots lv C a1 a2 a3 a4 hP hS hl
  rcases hr with rfl | ⟨a, rfl⟩
  · exact lv_aloadN C.1 C.2.1 hdg (hl.2.2.2 _ _ hv rfl) (kk p e R s m args below meth c H locs cells slots lv C a1 a2 a3 a4 hP hS hl)
  · exact lv_aload C.1 C.2.1 hdg (hl.2.2.2 _ _ hv rfl) (kk p e R s m args below meth c H locs cells slots lv C a1 a2 a3 a4 hP hS hl)
theorem Ev_iload_n {k : Fin 4} {x : Int32} (hdg : decode M.2.1 pc = .ok (.iload_n k, 1)) (hv : ls[(k : Nat)]? = some (.int x)) (kk : Ev l G d mc ms M (pc + 1) ls (.int x :: st) h Q) : Ev l G d mc ms M pc ls st h Q := by
  intro p e R s m args below meth c H locs cells slots lv C a1 a2 a3 a4 hP hS hl
  exact lv_iload_n C.1 C.2.1 hdg rfl (hl.2.2.2 _ _ hv rfl) (kk p e R s m args below meth c H locs cells slots lv C a1 a2 a3 a4 hP hS hl)
theorem Ev_iload {k : Nat} {x : Int32} (hdg : decode M.2.1 pc = .ok (.iload k, 2)) (hv : ls[k]? = some (.int x)) (kk : Ev l G d mc ms M (pc + 2) ls (.int x :: st) h Q) : Ev l G d mc ms M pc ls st h Q := by
  intro p e R s m args below meth c H locs cells slots lv C a1 a2 a3 a4 hP hS hl
  exact lv_iload C.1 C.2.1 hdg (hl.2.2.2 _ _ hv rfl) (kk p e R s m args below meth c H locs cells slots lv C a1 a2 a3 a4 hP hS hl)
theorem Ev_istore_n {k : Fin 4} {x : Int32} (hdg : decode M.2.1 pc = .ok (.istore_n k, 1)) (hk : (k : Nat) < M.2.2.1) (kk : Ev l G d mc ms M (pc + 1) (ls.set k (.int x)) st h Q) : Ev l G d mc ms M pc ls (.int x :: st) h Q := by
  intro p e R s m args below meth c H locs cells slots lv C a1 a2 a3 a4 hP hS hl
  exact lv_istore_n C.1 C.2.1 hdg rfl hl.has hk rfl (fun lv' hl' => kk p e R s m args below meth c H locs cells slots lv' C a1 a2 a3 a4 hP hS (hl.put (v := .int x) rfl hl'))
theorem Ev_istore {k : Nat} {x : Int32} (hdg : decode M.2.1 pc = .ok (.istore k, 2)) (hk : (k : Nat) < M.2.2.1) (kk : Ev l G d mc ms M (pc + 2) (ls.set k (.int x)) st h Q) : Ev l G d mc ms M pc ls (.int x :: st) h Q := by
  intro p e R s m args below meth c H locs cells slots lv C a1 a2 a3 a4 hP hS hl
  exact lv_istore C.1 C.2.1 hdg hl.has hk rfl (fun lv' hl' => kk p e R s m args below meth c H locs cells slots lv' C a1 a2 a3 a4 hP hS (hl.put (v := .int x) rfl hl'))
theorem Ev_astore_n {k : Fin 4} {v : Value} (hdg : decode M.2.1 pc = .ok (.astore_n k, 1)) (hk : (k : Nat) < M.2.2.1) (hr : (v = .null ∨ ∃ a, v = .ref a)) (kk : Ev l G d mc ms M (pc + 1) (ls.set k v) st h Q) : Ev l G d mc ms M pc ls (v :: st) h Q := by
  intro p e R s m args below meth c H locs cells slots lv C a1 a2 a3 a4 hP hS hl
  rcases hr with rfl | ⟨a, rfl⟩
  · exact lv_astore_nN C.1 C.2.1 hdg rfl hl.has hk rfl (fun lv' hl' => kk p e R s m args below meth c H locs cells slots lv' C a1 a2 a3 a4 hP hS (hl.put (v := .null) rfl hl'))
  · exact lv_astore_n C.1 C.2.1 hdg rfl hl.has hk rfl (fun lv' hl' => kk p e R s m args below meth c H locs cells slots lv' C a1 a2 a3 a4 hP hS (hl.put (v := .ref a) rfl hl'))
theorem Ev_astore {k : Nat} {v : Value} (hdg : decode M.2.1 pc = .ok (.astore k, 2)) (hk : (k : Nat) < M.2.2.1) (hr : (v = .null ∨ ∃ a, v = .ref a)) (kk : Ev l G d mc ms M (pc + 2) (ls.set k v) st h Q) : Ev l G d mc ms M pc ls (v :: st) h Q := by
  intro p e R s m args below meth c H locs cells slots lv C a1 a2 a3 a4 hP hS hl
  rcases hr with rfl | ⟨a, rfl⟩
  · exact lv_astoreN C.1 C.2.1 hdg hl.has hk rfl (fun lv' hl' => kk p e R s m args below meth c H locs cells slots lv' C a1 a2 a3 a4 hP hS (hl.put (v := .null) rfl hl'))
  · exact lv_astore C.1 C.2.1 hdg hl.has hk rfl (fun lv' hl' => kk p e R s m args below meth c H locs cells slots lv' C a1 a2 a3 a4 hP hS (hl.put (v := .ref a) rfl hl'))
theorem Ev_iinc {k : Nat} {n : Int} {x v : Int32} (hdg : decode M.2.1 pc = .ok (.iinc k n, 3)) (hk : (k : Nat) < M.2.2.1) (hx : ls[k]? = some (.int x)) (hv : x + Int32.ofInt n = v) (kk : Ev l G d mc ms M (pc + 3) (ls.set k (.int v)) st h Q) : Ev l G d mc ms M pc ls st h Q := by
  intro p e R s m args below meth c H locs cells slots lv C a1 a2 a3 a4 hP hS hl
  obtain ⟨q, hq⟩ := List.getElem?_of_mem (lp_mem.mpr ⟨.int x, hx, rfl, rfl⟩ : (k, Value.int x) ∈ lp G ls)
  exact lv_iinc C.1 C.2.1 hdg hl.has (k := q) hq hv hk rfl (fun lv' hl' => kk p e R s m args below meth c H locs cells slots lv' C a1 a2 a3 a4 hP hS (hl.put (v := .int v) rfl hl'))
end EV
