def bI (b : Bool) : Int32 := cond b 1 0
theorem bI_or (b : Bool) : bI b = 0 ∨ bI b = 1 := by cases b <;> simp [bI]
section EV
variable {l : Launch} {G : aG} {d mc ms : Nat} {M : aM} {pc : Nat} {ls st : List Value} {h : aH} {Q : Option Value → aH → Prop}
theorem Ev_if_eqB {b : Bool} {off : Int} (tgt : Nat) (hdg : decode M.2.1 pc = .ok (.ifCond .eq off, 3)) (ht : (pc : Int) + off = (tgt : Int)) (kt : b = false → Ev l G d mc ms M tgt ls st h Q) (kf : b = true → Ev l G d mc ms M (pc + 3) ls st h Q) : Ev l G d mc ms M pc ls (.int (bI b) :: st) h Q := by
  refine Ev_if_eq tgt hdg ht (fun z => kt ?_) (fun z => kf ?_)
  · cases b
    · rfl
    · exact absurd z (by decide)
  · cases b
    · exact absurd rfl z
    · rfl
theorem Ev_if_neB {b : Bool} {off : Int} (tgt : Nat) (hdg : decode M.2.1 pc = .ok (.ifCond .ne off, 3)) (ht : (pc : Int) + off = (tgt : Int)) (kt : b = true → Ev l G d mc ms M tgt ls st h Q) (kf : b = false → Ev l G d mc ms M (pc + 3) ls st h Q) : Ev l G d mc ms M pc ls (.int (bI b) :: st) h Q := by
  refine Ev_if_ne tgt hdg ht (fun z => kt ?_) (fun z => kf ?_)
  · cases b
    · exact absurd rfl z
    · rfl
  · cases b
    · rfl
    · exact absurd z (by decide)
theorem Ex_b {b : Bool} {x : Int32} {h : aH} (e : x = bI b) : Ex (some (.int (bI b))) h (some (.int x)) h := ⟨by rw [e], rfl⟩
theorem bTr {p : Prop} {b : Bool} (e : b = true ↔ p) (q : p) : nI 1 = bI b := by rw [e.mpr q]; rfl
theorem bFa {p : Prop} {b : Bool} (e : b = true ↔ p) (q : ¬ p) : nI 0 = bI b := by
  cases hb : b
  · rfl
  · exact absurd (e.mp hb) q
end EV
