section EV
variable {l : Launch} {G : aG} {d mc ms : Nat} {M : aM} {pc : Nat} {ls st : List Value} {h : aH} {Q : Option Value → aH → Prop}
theorem Ev_top {x y : Value} (e : x = y) (kk : Ev l G d mc ms M pc ls (y :: st) h Q) : Ev l G d mc ms M pc ls (x :: st) h Q := by
  rw [e]; exact kk
theorem Ev_iaddN {a b : Nat} (hdg : decode M.2.1 pc = .ok (.iadd, 1)) (kk : Ev l G d mc ms M (pc + 1) ls (.int (nI (a + b)) :: st) h Q) : Ev l G d mc ms M pc ls (.int (nI b) :: .int (nI a) :: st) h Q := by
  refine Ev_iadd hdg ?_
  rw [nI_add]; exact kk
theorem Ev_imulN {a b : Nat} (hdg : decode M.2.1 pc = .ok (.imul, 1)) (kk : Ev l G d mc ms M (pc + 1) ls (.int (nI (a * b)) :: st) h Q) : Ev l G d mc ms M pc ls (.int (nI b) :: .int (nI a) :: st) h Q := by
  refine Ev_imul hdg ?_
  rw [pk_mul]; exact kk
theorem Ev_isubN {a b : Nat} (hdg : decode M.2.1 pc = .ok (.isub, 1)) (hb : b ≤ a) (kk : Ev l G d mc ms M (pc + 1) ls (.int (nI (a - b)) :: st) h Q) : Ev l G d mc ms M pc ls (.int (nI b) :: .int (nI a) :: st) h Q := by
  refine Ev_isub hdg ?_
  rw [pk_sub hb]; exact kk
theorem Ev_iincN {k t : Nat} {z : Int} (n : Nat) (hdg : decode M.2.1 pc = .ok (.iinc k z, 3)) (hz : Int32.ofInt z = nI n) (hk : (k : Nat) < M.2.2.1) (hx : ls[k]? = some (.int (nI t))) (kk : Ev l G d mc ms M (pc + 3) (ls.set k (.int (nI (t + n)))) st h Q) : Ev l G d mc ms M pc ls st h Q := by
  exact Ev_iinc hdg hk hx (by rw [hz, nI_add]) kk
theorem Ev_icmp_eqN {a b : Nat} {off : Int} (tgt : Nat) (hdg : decode M.2.1 pc = .ok (.if_icmp .eq off, 3)) (ht : (pc : Int) + off = (tgt : Int)) (ha : a < 2 ^ 31) (hb : b < 2 ^ 31) (kt : a = b → Ev l G d mc ms M tgt ls st h Q) (kf : ¬ a = b → Ev l G d mc ms M (pc + 3) ls st h Q) : Ev l G d mc ms M pc ls (.int (nI b) :: .int (nI a) :: st) h Q := by
  exact Ev_icmp_eq tgt hdg ht (fun z => kt ((nI_eq ha hb).mp z)) (fun z => kf (fun q => z ((nI_eq ha hb).mpr q)))
theorem Ev_icmp_neN {a b : Nat} {off : Int} (tgt : Nat) (hdg : decode M.2.1 pc = .ok (.if_icmp .ne off, 3)) (ht : (pc : Int) + off = (tgt : Int)) (ha : a < 2 ^ 31) (hb : b < 2 ^ 31) (kt : ¬ a = b → Ev l G d mc ms M tgt ls st h Q) (kf : a = b → Ev l G d mc ms M (pc + 3) ls st h Q) : Ev l G d mc ms M pc ls (.int (nI b) :: .int (nI a) :: st) h Q := by
  exact Ev_icmp_ne tgt hdg ht (fun z => kt (fun q => z ((nI_eq ha hb).mpr q))) (fun z => kf ((nI_eq ha hb).mp z))
theorem Ev_icmp_ltN {a b : Nat} {off : Int} (tgt : Nat) (hdg : decode M.2.1 pc = .ok (.if_icmp .lt off, 3)) (ht : (pc : Int) + off = (tgt : Int)) (ha : a < 2 ^ 31) (hb : b < 2 ^ 31) (kt : a < b → Ev l G d mc ms M tgt ls st h Q) (kf : ¬ a < b → Ev l G d mc ms M (pc + 3) ls st h Q) : Ev l G d mc ms M pc ls (.int (nI b) :: .int (nI a) :: st) h Q := by
  exact Ev_icmp_lt tgt hdg ht (fun z => kt ((nI_ltI ha hb).mp z)) (fun z => kf (fun q => z ((nI_ltI ha hb).mpr q)))
theorem Ev_icmp_geN {a b : Nat} {off : Int} (tgt : Nat) (hdg : decode M.2.1 pc = .ok (.if_icmp .ge off, 3)) (ht : (pc : Int) + off = (tgt : Int)) (ha : a < 2 ^ 31) (hb : b < 2 ^ 31) (kt : b ≤ a → Ev l G d mc ms M tgt ls st h Q) (kf : ¬ b ≤ a → Ev l G d mc ms M (pc + 3) ls st h Q) : Ev l G d mc ms M pc ls (.int (nI b) :: .int (nI a) :: st) h Q := by
  exact Ev_icmp_ge tgt hdg ht (fun z => kt ((nI_leI hb ha).mp z)) (fun z => kf (fun q => z ((nI_leI hb ha).mpr q)))
theorem Ev_icmp_gtN {a b : Nat} {off : Int} (tgt : Nat) (hdg : decode M.2.1 pc = .ok (.if_icmp .gt off, 3)) (ht : (pc : Int) + off = (tgt : Int)) (ha : a < 2 ^ 31) (hb : b < 2 ^ 31) (kt : b < a → Ev l G d mc ms M tgt ls st h Q) (kf : ¬ b < a → Ev l G d mc ms M (pc + 3) ls st h Q) : Ev l G d mc ms M pc ls (.int (nI b) :: .int (nI a) :: st) h Q := by
  exact Ev_icmp_gt tgt hdg ht (fun z => kt ((nI_ltI hb ha).mp z)) (fun z => kf (fun q => z ((nI_ltI hb ha).mpr q)))
theorem Ev_icmp_leN {a b : Nat} {off : Int} (tgt : Nat) (hdg : decode M.2.1 pc = .ok (.if_icmp .le off, 3)) (ht : (pc : Int) + off = (tgt : Int)) (ha : a < 2 ^ 31) (hb : b < 2 ^ 31) (kt : a ≤ b → Ev l G d mc ms M tgt ls st h Q) (kf : ¬ a ≤ b → Ev l G d mc ms M (pc + 3) ls st h Q) : Ev l G d mc ms M pc ls (.int (nI b) :: .int (nI a) :: st) h Q := by
  exact Ev_icmp_le tgt hdg ht (fun z => kt ((nI_leI ha hb).mp z)) (fun z => kf (fun q => z ((nI_leI ha hb).mpr q)))
theorem Ev_icmp_eqT {x y : Int32} {off : Int} (tgt : Nat) (hdg : decode M.2.1 pc = .ok (.if_icmp .eq off, 3)) (ht : (pc : Int) + off = (tgt : Int)) (kt : x.toInt = y.toInt → Ev l G d mc ms M tgt ls st h Q) (kf : ¬ x.toInt = y.toInt → Ev l G d mc ms M (pc + 3) ls st h Q) : Ev l G d mc ms M pc ls (.int y :: .int x :: st) h Q := by
  exact Ev_icmp_eq tgt hdg ht (fun z => kt ((Int32.toInt_inj (x := x) (y := y)).mpr z)) (fun z => kf (fun q => z ((Int32.toInt_inj (x := x) (y := y)).mp q)))
theorem Ev_if_eqT {x : Int32} {off : Int} (tgt : Nat) (hdg : decode M.2.1 pc = .ok (.ifCond .eq off, 3)) (ht : (pc : Int) + off = (tgt : Int)) (kt : x.toInt = 0 → Ev l G d mc ms M tgt ls st h Q) (kf : ¬ x.toInt = 0 → Ev l G d mc ms M (pc + 3) ls st h Q) : Ev l G d mc ms M pc ls (.int x :: st) h Q := by
  have e0 : (0 : Int32).toInt = 0 := by decide
  refine Ev_if_eq tgt hdg ht (fun z => kt ?_) (fun z => kf ?_)
  · have := (Int32.toInt_inj (x := x) (y := 0)).mpr z
    rw [e0] at this; exact this
  · have := fun q => z ((Int32.toInt_inj (x := x) (y := 0)).mp q)
    rw [e0] at this; exact this
theorem Ev_icmp_neT {x y : Int32} {off : Int} (tgt : Nat) (hdg : decode M.2.1 pc = .ok (.if_icmp .ne off, 3)) (ht : (pc : Int) + off = (tgt : Int)) (kt : ¬ x.toInt = y.toInt → Ev l G d mc ms M tgt ls st h Q) (kf : x.toInt = y.toInt → Ev l G d mc ms M (pc + 3) ls st h Q) : Ev l G d mc ms M pc ls (.int y :: .int x :: st) h Q := by
  exact Ev_icmp_ne tgt hdg ht (fun z => kt (fun q => z ((Int32.toInt_inj (x := x) (y := y)).mp q))) (fun z => kf ((Int32.toInt_inj (x := x) (y := y)).mpr z))
theorem Ev_if_neT {x : Int32} {off : Int} (tgt : Nat) (hdg : decode M.2.1 pc = .ok (.ifCond .ne off, 3)) (ht : (pc : Int) + off = (tgt : Int)) (kt : ¬ x.toInt = 0 → Ev l G d mc ms M tgt ls st h Q) (kf : x.toInt = 0 → Ev l G d mc ms M (pc + 3) ls st h Q) : Ev l G d mc ms M pc ls (.int x :: st) h Q := by
  have e0 : (0 : Int32).toInt = 0 := by decide
  refine Ev_if_ne tgt hdg ht (fun z => kt ?_) (fun z => kf ?_)
  · have := fun q => z ((Int32.toInt_inj (x := x) (y := 0)).mp q)
    rw [e0] at this; exact this
  · have := (Int32.toInt_inj (x := x) (y := 0)).mpr z
    rw [e0] at this; exact this
theorem Ev_icmp_ltT {x y : Int32} {off : Int} (tgt : Nat) (hdg : decode M.2.1 pc = .ok (.if_icmp .lt off, 3)) (ht : (pc : Int) + off = (tgt : Int)) (kt : x.toInt < y.toInt → Ev l G d mc ms M tgt ls st h Q) (kf : ¬ x.toInt < y.toInt → Ev l G d mc ms M (pc + 3) ls st h Q) : Ev l G d mc ms M pc ls (.int y :: .int x :: st) h Q := by
  exact Ev_icmp_lt tgt hdg ht (fun z => kt (((Int32.lt_iff_toInt_lt (x := x) (y := y)).symm).mpr z)) (fun z => kf (fun q => z (((Int32.lt_iff_toInt_lt (x := x) (y := y)).symm).mp q)))
theorem Ev_if_ltT {x : Int32} {off : Int} (tgt : Nat) (hdg : decode M.2.1 pc = .ok (.ifCond .lt off, 3)) (ht : (pc : Int) + off = (tgt : Int)) (kt : x.toInt < 0 → Ev l G d mc ms M tgt ls st h Q) (kf : ¬ x.toInt < 0 → Ev l G d mc ms M (pc + 3) ls st h Q) : Ev l G d mc ms M pc ls (.int x :: st) h Q := by
  have e0 : (0 : Int32).toInt = 0 := by decide
  refine Ev_if_lt tgt hdg ht (fun z => kt ?_) (fun z => kf ?_)
  · have := ((Int32.lt_iff_toInt_lt (x := x) (y := 0)).symm).mpr z
    rw [e0] at this; exact this
  · have := fun q => z (((Int32.lt_iff_toInt_lt (x := x) (y := 0)).symm).mp q)
    rw [e0] at this; exact this
theorem Ev_icmp_geT {x y : Int32} {off : Int} (tgt : Nat) (hdg : decode M.2.1 pc = .ok (.if_icmp .ge off, 3)) (ht : (pc : Int) + off = (tgt : Int)) (kt : y.toInt ≤ x.toInt → Ev l G d mc ms M tgt ls st h Q) (kf : ¬ y.toInt ≤ x.toInt → Ev l G d mc ms M (pc + 3) ls st h Q) : Ev l G d mc ms M pc ls (.int y :: .int x :: st) h Q := by
  exact Ev_icmp_ge tgt hdg ht (fun z => kt (((Int32.le_iff_toInt_le (x := y) (y := x)).symm).mpr z)) (fun z => kf (fun q => z (((Int32.le_iff_toInt_le (x := y) (y := x)).symm).mp q)))
theorem Ev_if_geT {x : Int32} {off : Int} (tgt : Nat) (hdg : decode M.2.1 pc = .ok (.ifCond .ge off, 3)) (ht : (pc : Int) + off = (tgt : Int)) (kt : 0 ≤ x.toInt → Ev l G d mc ms M tgt ls st h Q) (kf : ¬ 0 ≤ x.toInt → Ev l G d mc ms M (pc + 3) ls st h Q) : Ev l G d mc ms M pc ls (.int x :: st) h Q := by
  have e0 : (0 : Int32).toInt = 0 := by decide
  refine Ev_if_ge tgt hdg ht (fun z => kt ?_) (fun z => kf ?_)
  · have := ((Int32.le_iff_toInt_le (x := 0) (y := x)).symm).mpr z
    rw [e0] at this; exact this
  · have := fun q => z (((Int32.le_iff_toInt_le (x := 0) (y := x)).symm).mp q)
    rw [e0] at this; exact this
theorem Ev_icmp_gtT {x y : Int32} {off : Int} (tgt : Nat) (hdg : decode M.2.1 pc = .ok (.if_icmp .gt off, 3)) (ht : (pc : Int) + off = (tgt : Int)) (kt : y.toInt < x.toInt → Ev l G d mc ms M tgt ls st h Q) (kf : ¬ y.toInt < x.toInt → Ev l G d mc ms M (pc + 3) ls st h Q) : Ev l G d mc ms M pc ls (.int y :: .int x :: st) h Q := by
  exact Ev_icmp_gt tgt hdg ht (fun z => kt (((Int32.lt_iff_toInt_lt (x := y) (y := x)).symm).mpr z)) (fun z => kf (fun q => z (((Int32.lt_iff_toInt_lt (x := y) (y := x)).symm).mp q)))
theorem Ev_if_gtT {x : Int32} {off : Int} (tgt : Nat) (hdg : decode M.2.1 pc = .ok (.ifCond .gt off, 3)) (ht : (pc : Int) + off = (tgt : Int)) (kt : 0 < x.toInt → Ev l G d mc ms M tgt ls st h Q) (kf : ¬ 0 < x.toInt → Ev l G d mc ms M (pc + 3) ls st h Q) : Ev l G d mc ms M pc ls (.int x :: st) h Q := by
  have e0 : (0 : Int32).toInt = 0 := by decide
  refine Ev_if_gt tgt hdg ht (fun z => kt ?_) (fun z => kf ?_)
  · have := ((Int32.lt_iff_toInt_lt (x := 0) (y := x)).symm).mpr z
    rw [e0] at this; exact this
  · have := fun q => z (((Int32.lt_iff_toInt_lt (x := 0) (y := x)).symm).mp q)
    rw [e0] at this; exact this
theorem Ev_icmp_leT {x y : Int32} {off : Int} (tgt : Nat) (hdg : decode M.2.1 pc = .ok (.if_icmp .le off, 3)) (ht : (pc : Int) + off = (tgt : Int)) (kt : x.toInt ≤ y.toInt → Ev l G d mc ms M tgt ls st h Q) (kf : ¬ x.toInt ≤ y.toInt → Ev l G d mc ms M (pc + 3) ls st h Q) : Ev l G d mc ms M pc ls (.int y :: .int x :: st) h Q := by
  exact Ev_icmp_le tgt hdg ht (fun z => kt (((Int32.le_iff_toInt_le (x := x) (y := y)).symm).mpr z)) (fun z => kf (fun q => z (((Int32.le_iff_toInt_le (x := x) (y := y)).symm).mp q)))
theorem Ev_if_leT {x : Int32} {off : Int} (tgt : Nat) (hdg : decode M.2.1 pc = .ok (.ifCond .le off, 3)) (ht : (pc : Int) + off = (tgt : Int)) (kt : x.toInt ≤ 0 → Ev l G d mc ms M tgt ls st h Q) (kf : ¬ x.toInt ≤ 0 → Ev l G d mc ms M (pc + 3) ls st h Q) : Ev l G d mc ms M pc ls (.int x :: st) h Q := by
  have e0 : (0 : Int32).toInt = 0 := by decide
  refine Ev_if_le tgt hdg ht (fun z => kt ?_) (fun z => kf ?_)
  · have := ((Int32.le_iff_toInt_le (x := x) (y := 0)).symm).mpr z
    rw [e0] at this; exact this
  · have := fun q => z (((Int32.le_iff_toInt_le (x := x) (y := 0)).symm).mp q)
    rw [e0] at this; exact this
theorem Ev_getA {idx ci j f a b : Nat} (hdg : decode M.2.1 pc = .ok (.getfield idx, 3)) (hf : aFl M.1.cls idx ci j f true) (hk : hK h a = ci) (hb : hR h f a = some b) (kk : Ev l G d mc ms M (pc + 3) ls (.ref b :: st) h Q) : Ev l G d mc ms M pc ls (.ref a :: st) h Q := by
  refine Ev_getR hdg hf hk ?_
  rw [hb]; exact kk
theorem Ev_getE {idx ci j f a : Nat} {x : Int32} (hdg : decode M.2.1 pc = .ok (.getfield idx, 3)) (hf : aFl M.1.cls idx ci j f false) (hk : hK h a = ci) (hb : hI h f a = x) (kk : Ev l G d mc ms M (pc + 3) ls (.int x :: st) h Q) : Ev l G d mc ms M pc ls (.ref a :: st) h Q := by
  refine Ev_getI hdg hf hk ?_
  rw [hb]; exact kk
theorem Ev_ialdL {i : Int32} {a n : Nat} (j : Nat) (hdg : decode M.2.1 pc = .ok (.iaload, 1)) (hk : hK h a = 13) (hn : hL h a = n) (hi : i.toInt = (j : Int)) (hj : j < n) (kk : Ev l G d mc ms M (pc + 1) ls (.int (hX h a j) :: st) h Q) : Ev l G d mc ms M pc ls (.int i :: .ref a :: st) h Q := by
  exact Ev_iald j hdg hk hi (by rw [hn]; exact hj) kk
theorem Ev_zaldL {i : Int32} {a n : Nat} (j : Nat) (hdg : decode M.2.1 pc = .ok (.baload, 1)) (hk : hK h a = 14) (hn : hL h a = n) (hi : i.toInt = (j : Int)) (hj : j < n) (kk : Ev l G d mc ms M (pc + 1) ls (.int (hX h a j) :: st) h Q) : Ev l G d mc ms M pc ls (.int i :: .ref a :: st) h Q := by
  exact Ev_zald j hdg hk hi (by rw [hn]; exact hj) kk
theorem Ev_iastL {i x : Int32} {a n : Nat} (j : Nat) (hdg : decode M.2.1 pc = .ok (.iastore, 1)) (hk : hK h a = 13) (hn : hL h a = n) (hi : i.toInt = (j : Int)) (hj : j < n) (kk : Ev l G d mc ms M (pc + 1) ls st (sX h a j x) Q) : Ev l G d mc ms M pc ls (.int x :: .int i :: .ref a :: st) h Q := by
  exact Ev_iast j hdg hk hi (by rw [hn]; exact hj) kk
theorem Ev_zastL {i x : Int32} {a n : Nat} (j : Nat) (hdg : decode M.2.1 pc = .ok (.bastore, 1)) (hk : hK h a = 14) (hn : hL h a = n) (hx : x = 0 ∨ x = 1) (hi : i.toInt = (j : Int)) (hj : j < n) (kk : Ev l G d mc ms M (pc + 1) ls st (sX h a j x) Q) : Ev l G d mc ms M pc ls (.int x :: .int i :: .ref a :: st) h Q := by
  exact Ev_zast j hdg hk hx hi (by rw [hn]; exact hj) kk
theorem hi_n {n : Nat} (h : n < 2 ^ 31) : (nI n).toInt = (n : Int) := nI_toInt h
end EV
