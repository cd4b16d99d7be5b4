section EV
variable {l : Launch} {G : aG} {d mc ms : Nat} {M : aM} {pc : Nat} {ls st : List Value} {h : aH} {Q : Option Value → aH → Prop}
theorem Ev_mmax {idx : Nat} {x y : Int32} (hdg : decode M.2.1 pc = .ok (.invokestatic idx, 3)) (hd : 1 ≤ d) (hst : st.all okv = true) (hlen : st.length ≤ 8) (w1 : Cond.methodLink M.1.cls idx yJ9_max_7cf53 ∈ aTs) (kk : Ev l G d mc ms M (pc + 3) ls (.int (if x < y then y else x) :: st) h Q) : Ev l G d mc ms M pc ls (.int y :: .int x :: st) h Q := by
  intro p e R s m args below meth c H locs cells slots lv C a1 a2 a3 a4 hP hS hl
  have hts := C.2.2.2.2.2.1
  exact va_mmax C.1 C.2.1 (by rw [C.2.2.1]; exact hl.1.symm) C.2.2.2.2.1 (hts _ w1) (hts _ wJ9_max_7cf53.2.1) (hts _ wJ9_max_7cf53.2.2) (hts _ wJ9_max_7cf53.1) (by omega) (by rw [cat_sum G hst]; omega) (by omega) (by omega) hdg (kk p e R s m args below meth c H locs cells slots lv C a1 a2 a3 a4 hP hS hl)
theorem Ev_mmin {idx : Nat} {x y : Int32} (hdg : decode M.2.1 pc = .ok (.invokestatic idx, 3)) (hd : 1 ≤ d) (hst : st.all okv = true) (hlen : st.length ≤ 8) (w1 : Cond.methodLink M.1.cls idx yJ9_min_7cf53 ∈ aTs) (kk : Ev l G d mc ms M (pc + 3) ls (.int (if y < x then y else x) :: st) h Q) : Ev l G d mc ms M pc ls (.int y :: .int x :: st) h Q := by
  intro p e R s m args below meth c H locs cells slots lv C a1 a2 a3 a4 hP hS hl
  have hts := C.2.2.2.2.2.1
  exact va_mmin C.1 C.2.1 (by rw [C.2.2.1]; exact hl.1.symm) C.2.2.2.2.1 (hts _ w1) (hts _ wJ9_min_7cf53.2.1) (hts _ wJ9_min_7cf53.2.2) (hts _ wJ9_min_7cf53.1) (by omega) (by rw [cat_sum G hst]; omega) (by omega) (by omega) hdg (kk p e R s m args below meth c H locs cells slots lv C a1 a2 a3 a4 hP hS hl)
theorem hK_sI (h : aH) (k a : Nat) (v : Int32) : hK (sI h k a v) = hK h := rfl
theorem hL_sI (h : aH) (k a : Nat) (v : Int32) : hL (sI h k a v) = hL h := rfl
end EV
