section EV
variable {l : Launch} {G : aG} {d mc ms : Nat} {M : aM} {pc : Nat} {ls st : List Value} {h : aH} {Q : Option Value → aH → Prop}

theorem Ev_iconst {n : Int} {v : Int32} (hdg : decode M.2.1 pc = .ok (.iconst n, 1)) (hv : Int32.ofInt n = v) (kk : Ev l G d mc ms M (pc + 1) ls (.int v :: st) h Q) : Ev l G d mc ms M pc ls st h Q := by
  intro p e R s m args below meth c H locs cells slots lv C a1 a2 a3 a4 hP hS hl
  exact lv_iconst C.1 C.2.1 hdg hv (kk p e R s m args below meth c H locs cells slots lv C a1 a2 a3 a4 hP hS hl)

theorem Ev_bipush {n : Int} {v : Int32} (hdg : decode M.2.1 pc = .ok (.bipush n, 2)) (hv : (Int8.ofInt n).toInt32 = v) (kk : Ev l G d mc ms M (pc + 2) ls (.int v :: st) h Q) : Ev l G d mc ms M pc ls st h Q := by
  intro p e R s m args below meth c H locs cells slots lv C a1 a2 a3 a4 hP hS hl
  exact lv_bipush C.1 C.2.1 hdg hv (kk p e R s m args below meth c H locs cells slots lv C a1 a2 a3 a4 hP hS hl)

theorem Ev_sipush {n : Int} {v : Int32} (hdg : decode M.2.1 pc = .ok (.sipush n, 3)) (hv : (Int16.ofInt n).toInt32 = v) (kk : Ev l G d mc ms M (pc + 3) ls (.int v :: st) h Q) : Ev l G d mc ms M pc ls st h Q := by
  intro p e R s m args below meth c H locs cells slots lv C a1 a2 a3 a4 hP hS hl
  exact lv_sipush C.1 C.2.1 hdg hv (kk p e R s m args below meth c H locs cells slots lv C a1 a2 a3 a4 hP hS hl)

theorem Ev_null (hdg : decode M.2.1 pc = .ok (.aconst_null, 1)) (kk : Ev l G d mc ms M (pc + 1) ls (.null :: st) h Q) : Ev l G d mc ms M pc ls st h Q := by
  intro p e R s m args below meth c H locs cells slots lv C a1 a2 a3 a4 hP hS hl
  exact lv_null C.1 C.2.1 hdg (kk p e R s m args below meth c H locs cells slots lv C a1 a2 a3 a4 hP hS hl)

theorem Ev_iadd {x y : Int32} (hdg : decode M.2.1 pc = .ok (.iadd, 1)) (kk : Ev l G d mc ms M (pc + 1) ls (.int (x + y) :: st) h Q) : Ev l G d mc ms M pc ls (.int y :: .int x :: st) h Q := by
  intro p e R s m args below meth c H locs cells slots lv C a1 a2 a3 a4 hP hS hl
  exact lv_iadd C.1 C.2.1 hdg (kk p e R s m args below meth c H locs cells slots lv C a1 a2 a3 a4 hP hS hl)

theorem Ev_isub {x y : Int32} (hdg : decode M.2.1 pc = .ok (.isub, 1)) (kk : Ev l G d mc ms M (pc + 1) ls (.int (x - y) :: st) h Q) : Ev l G d mc ms M pc ls (.int y :: .int x :: st) h Q := by
  intro p e R s m args below meth c H locs cells slots lv C a1 a2 a3 a4 hP hS hl
  exact lv_isub C.1 C.2.1 hdg (kk p e R s m args below meth c H locs cells slots lv C a1 a2 a3 a4 hP hS hl)

theorem Ev_imul {x y : Int32} (hdg : decode M.2.1 pc = .ok (.imul, 1)) (kk : Ev l G d mc ms M (pc + 1) ls (.int (x * y) :: st) h Q) : Ev l G d mc ms M pc ls (.int y :: .int x :: st) h Q := by
  intro p e R s m args below meth c H locs cells slots lv C a1 a2 a3 a4 hP hS hl
  exact lv_imul C.1 C.2.1 hdg (kk p e R s m args below meth c H locs cells slots lv C a1 a2 a3 a4 hP hS hl)

theorem Ev_iand {x y : Int32} (hdg : decode M.2.1 pc = .ok (.iand, 1)) (kk : Ev l G d mc ms M (pc + 1) ls (.int (x &&& y) :: st) h Q) : Ev l G d mc ms M pc ls (.int y :: .int x :: st) h Q := by
  intro p e R s m args below meth c H locs cells slots lv C a1 a2 a3 a4 hP hS hl
  exact lv_iand C.1 C.2.1 hdg (kk p e R s m args below meth c H locs cells slots lv C a1 a2 a3 a4 hP hS hl)

theorem Ev_ishr {x y : Int32} (hdg : decode M.2.1 pc = .ok (.ishr, 1)) (kk : Ev l G d mc ms M (pc + 1) ls (.int (x >>> (y &&& 31)) :: st) h Q) : Ev l G d mc ms M pc ls (.int y :: .int x :: st) h Q := by
  intro p e R s m args below meth c H locs cells slots lv C a1 a2 a3 a4 hP hS hl
  exact lv_ishr C.1 C.2.1 hdg (kk p e R s m args below meth c H locs cells slots lv C a1 a2 a3 a4 hP hS hl)

theorem Ev_iushr {x y : Int32} (hdg : decode M.2.1 pc = .ok (.iushr, 1)) (kk : Ev l G d mc ms M (pc + 1) ls (.int ((x.toUInt32 >>> (y.toUInt32 &&& Int32.toUInt32 31)).toInt32) :: st) h Q) : Ev l G d mc ms M pc ls (.int y :: .int x :: st) h Q := by
  intro p e R s m args below meth c H locs cells slots lv C a1 a2 a3 a4 hP hS hl
  exact lv_iushr C.1 C.2.1 hdg rfl (kk p e R s m args below meth c H locs cells slots lv C a1 a2 a3 a4 hP hS hl)

theorem Ev_idiv {x y : Int32} (hdg : decode M.2.1 pc = .ok (.idiv, 1)) (hne : ¬ y = 0) (kk : Ev l G d mc ms M (pc + 1) ls (.int (x / y) :: st) h Q) : Ev l G d mc ms M pc ls (.int y :: .int x :: st) h Q := by
  intro p e R s m args below meth c H locs cells slots lv C a1 a2 a3 a4 hP hS hl
  exact lv_idiv C.1 C.2.1 hdg hne (kk p e R s m args below meth c H locs cells slots lv C a1 a2 a3 a4 hP hS hl)

theorem Ev_irem {x y : Int32} (hdg : decode M.2.1 pc = .ok (.irem, 1)) (hne : ¬ y = 0) (kk : Ev l G d mc ms M (pc + 1) ls (.int (x - x / y * y) :: st) h Q) : Ev l G d mc ms M pc ls (.int y :: .int x :: st) h Q := by
  intro p e R s m args below meth c H locs cells slots lv C a1 a2 a3 a4 hP hS hl
  exact lv_irem C.1 C.2.1 hdg hne (kk p e R s m args below meth c H locs cells slots lv C a1 a2 a3 a4 hP hS hl)

theorem Ev_dup {v : Value} (hdg : decode M.2.1 pc = .ok (.dup, 1)) (hv : okv v = true) (kk : Ev l G d mc ms M (pc + 1) ls (v :: v :: st) h Q) : Ev l G d mc ms M pc ls (v :: st) h Q := by
  intro p e R s m args below meth c H locs cells slots lv C a1 a2 a3 a4 hP hS hl
  exact lv_dup C.1 C.2.1 hdg (okv_cat G hv) (kk p e R s m args below meth c H locs cells slots lv C a1 a2 a3 a4 hP hS hl)

theorem Ev_pop {v : Value} (hdg : decode M.2.1 pc = .ok (.pop, 1)) (hv : okv v = true) (kk : Ev l G d mc ms M (pc + 1) ls st h Q) : Ev l G d mc ms M pc ls (v :: st) h Q := by
  intro p e R s m args below meth c H locs cells slots lv C a1 a2 a3 a4 hP hS hl
  exact lv_pop C.1 C.2.1 hdg (okv_cat G hv) (kk p e R s m args below meth c H locs cells slots lv C a1 a2 a3 a4 hP hS hl)

theorem Ev_dup_x1 {v w : Value} (hdg : decode M.2.1 pc = .ok (.dup_x1, 1)) (hv : okv v = true) (hw : okv w = true) (kk : Ev l G d mc ms M (pc + 1) ls (v :: w :: v :: st) h Q) : Ev l G d mc ms M pc ls (v :: w :: st) h Q := by
  intro p e R s m args below meth c H locs cells slots lv C a1 a2 a3 a4 hP hS hl
  exact lv_dup_x1 C.1 C.2.1 hdg (okv_cat G hv) (okv_cat G hw) (kk p e R s m args below meth c H locs cells slots lv C a1 a2 a3 a4 hP hS hl)

theorem Ev_dup2 {v w : Value} (hdg : decode M.2.1 pc = .ok (.dup2, 1)) (hv : okv v = true) (hw : okv w = true) (kk : Ev l G d mc ms M (pc + 1) ls (v :: w :: v :: w :: st) h Q) : Ev l G d mc ms M pc ls (v :: w :: st) h Q := by
  intro p e R s m args below meth c H locs cells slots lv C a1 a2 a3 a4 hP hS hl
  exact lv_dup2_11 C.1 C.2.1 hdg (okv_cat G hv) (okv_cat G hw) (kk p e R s m args below meth c H locs cells slots lv C a1 a2 a3 a4 hP hS hl)

theorem Ev_icmp_eq {x y : Int32} {off : Int} (tgt : Nat) (hdg : decode M.2.1 pc = .ok (.if_icmp .eq off, 3)) (ht : (pc : Int) + off = (tgt : Int)) (kt : x = y → Ev l G d mc ms M tgt ls st h Q) (kf : ¬ x = y → Ev l G d mc ms M (pc + 3) ls st h Q) : Ev l G d mc ms M pc ls (.int y :: .int x :: st) h Q := by
  intro p e R s m args below meth c H locs cells slots lv C a1 a2 a3 a4 hP hS hl
  exact lv_icmp_eq C.1 C.2.1 hdg ht (fun z => kt z p e R s m args below meth c H locs cells slots lv C a1 a2 a3 a4 hP hS hl) (fun z => kf z p e R s m args below meth c H locs cells slots lv C a1 a2 a3 a4 hP hS hl)

theorem Ev_if_eq {x : Int32} {off : Int} (tgt : Nat) (hdg : decode M.2.1 pc = .ok (.ifCond .eq off, 3)) (ht : (pc : Int) + off = (tgt : Int)) (kt : x = 0 → Ev l G d mc ms M tgt ls st h Q) (kf : ¬ x = 0 → Ev l G d mc ms M (pc + 3) ls st h Q) : Ev l G d mc ms M pc ls (.int x :: st) h Q := by
  intro p e R s m args below meth c H locs cells slots lv C a1 a2 a3 a4 hP hS hl
  exact lv_if_eq C.1 C.2.1 hdg ht (fun z => kt z p e R s m args below meth c H locs cells slots lv C a1 a2 a3 a4 hP hS hl) (fun z => kf z p e R s m args below meth c H locs cells slots lv C a1 a2 a3 a4 hP hS hl)

theorem Ev_icmp_ne {x y : Int32} {off : Int} (tgt : Nat) (hdg : decode M.2.1 pc = .ok (.if_icmp .ne off, 3)) (ht : (pc : Int) + off = (tgt : Int)) (kt : ¬ x = y → Ev l G d mc ms M tgt ls st h Q) (kf : x = y → Ev l G d mc ms M (pc + 3) ls st h Q) : Ev l G d mc ms M pc ls (.int y :: .int x :: st) h Q := by
  intro p e R s m args below meth c H locs cells slots lv C a1 a2 a3 a4 hP hS hl
  exact lv_icmp_ne C.1 C.2.1 hdg ht (fun z => kt z p e R s m args below meth c H locs cells slots lv C a1 a2 a3 a4 hP hS hl) (fun z => kf z p e R s m args below meth c H locs cells slots lv C a1 a2 a3 a4 hP hS hl)

theorem Ev_if_ne {x : Int32} {off : Int} (tgt : Nat) (hdg : decode M.2.1 pc = .ok (.ifCond .ne off, 3)) (ht : (pc : Int) + off = (tgt : Int)) (kt : ¬ x = 0 → Ev l G d mc ms M tgt ls st h Q) (kf : x = 0 → Ev l G d mc ms M (pc + 3) ls st h Q) : Ev l G d mc ms M pc ls (.int x :: st) h Q := by
  intro p e R s m args below meth c H locs cells slots lv C a1 a2 a3 a4 hP hS hl
  exact lv_if_ne C.1 C.2.1 hdg ht (fun z => kt z p e R s m args below meth c H locs cells slots lv C a1 a2 a3 a4 hP hS hl) (fun z => kf z p e R s m args below meth c H locs cells slots lv C a1 a2 a3 a4 hP hS hl)

theorem Ev_icmp_lt {x y : Int32} {off : Int} (tgt : Nat) (hdg : decode M.2.1 pc = .ok (.if_icmp .lt off, 3)) (ht : (pc : Int) + off = (tgt : Int)) (kt : x < y → Ev l G d mc ms M tgt ls st h Q) (kf : ¬ x < y → Ev l G d mc ms M (pc + 3) ls st h Q) : Ev l G d mc ms M pc ls (.int y :: .int x :: st) h Q := by
  intro p e R s m args below meth c H locs cells slots lv C a1 a2 a3 a4 hP hS hl
  exact lv_icmp_lt C.1 C.2.1 hdg ht (fun z => kt z p e R s m args below meth c H locs cells slots lv C a1 a2 a3 a4 hP hS hl) (fun z => kf z p e R s m args below meth c H locs cells slots lv C a1 a2 a3 a4 hP hS hl)

theorem Ev_if_lt {x : Int32} {off : Int} (tgt : Nat) (hdg : decode M.2.1 pc = .ok (.ifCond .lt off, 3)) (ht : (pc : Int) + off = (tgt : Int)) (kt : x < 0 → Ev l G d mc ms M tgt ls st h Q) (kf : ¬ x < 0 → Ev l G d mc ms M (pc + 3) ls st h Q) : Ev l G d mc ms M pc ls (.int x :: st) h Q := by
  intro p e R s m args below meth c H locs cells slots lv C a1 a2 a3 a4 hP hS hl
  exact lv_if_lt C.1 C.2.1 hdg ht (fun z => kt z p e R s m args below meth c H locs cells slots lv C a1 a2 a3 a4 hP hS hl) (fun z => kf z p e R s m args below meth c H locs cells slots lv C a1 a2 a3 a4 hP hS hl)

theorem Ev_icmp_ge {x y : Int32} {off : Int} (tgt : Nat) (hdg : decode M.2.1 pc = .ok (.if_icmp .ge off, 3)) (ht : (pc : Int) + off = (tgt : Int)) (kt : y ≤ x → Ev l G d mc ms M tgt ls st h Q) (kf : ¬ y ≤ x → Ev l G d mc ms M (pc + 3) ls st h Q) : Ev l G d mc ms M pc ls (.int y :: .int x :: st) h Q := by
  intro p e R s m args below meth c H locs cells slots lv C a1 a2 a3 a4 hP hS hl
  exact lv_icmp_ge C.1 C.2.1 hdg ht (fun z => kt z p e R s m args below meth c H locs cells slots lv C a1 a2 a3 a4 hP hS hl) (fun z => kf z p e R s m args below meth c H locs cells slots lv C a1 a2 a3 a4 hP hS hl)

theorem Ev_if_ge {x : Int32} {off : Int} (tgt : Nat) (hdg : decode M.2.1 pc = .ok (.ifCond .ge off, 3)) (ht : (pc : Int) + off = (tgt : Int)) (kt : 0 ≤ x → Ev l G d mc ms M tgt ls st h Q) (kf : ¬ 0 ≤ x → Ev l G d mc ms M (pc + 3) ls st h Q) : Ev l G d mc ms M pc ls (.int x :: st) h Q := by
  intro p e R s m args below meth c H locs cells slots lv C a1 a2 a3 a4 hP hS hl
  exact lv_if_ge C.1 C.2.1 hdg ht (fun z => kt z p e R s m args below meth c H locs cells slots lv C a1 a2 a3 a4 hP hS hl) (fun z => kf z p e R s m args below meth c H locs cells slots lv C a1 a2 a3 a4 hP hS hl)

theorem Ev_icmp_gt {x y : Int32} {off : Int} (tgt : Nat) (hdg : decode M.2.1 pc = .ok (.if_icmp .gt off, 3)) (ht : (pc : Int) + off = (tgt : Int)) (kt : y < x → Ev l G d mc ms M tgt ls st h Q) (kf : ¬ y < x → Ev l G d mc ms M (pc + 3) ls st h Q) : Ev l G d mc ms M pc ls (.int y :: .int x :: st) h Q := by
  intro p e R s m args below meth c H locs cells slots lv C a1 a2 a3 a4 hP hS hl
  exact lv_icmp_gt C.1 C.2.1 hdg ht (fun z => kt z p e R s m args below meth c H locs cells slots lv C a1 a2 a3 a4 hP hS hl) (fun z => kf z p e R s m args below meth c H locs cells slots lv C a1 a2 a3 a4 hP hS hl)

theorem Ev_if_gt {x : Int32} {off : Int} (tgt : Nat) (hdg : decode M.2.1 pc = .ok (.ifCond .gt off, 3)) (ht : (pc : Int) + off = (tgt : Int)) (kt : 0 < x → Ev l G d mc ms M tgt ls st h Q) (kf : ¬ 0 < x → Ev l G d mc ms M (pc + 3) ls st h Q) : Ev l G d mc ms M pc ls (.int x :: st) h Q := by
  intro p e R s m args below meth c H locs cells slots lv C a1 a2 a3 a4 hP hS hl
  exact lv_if_gt C.1 C.2.1 hdg ht (fun z => kt z p e R s m args below meth c H locs cells slots lv C a1 a2 a3 a4 hP hS hl) (fun z => kf z p e R s m args below meth c H locs cells slots lv C a1 a2 a3 a4 hP hS hl)

theorem Ev_icmp_le {x y : Int32} {off : Int} (tgt : Nat) (hdg : decode M.2.1 pc = .ok (.if_icmp .le off, 3)) (ht : (pc : Int) + off = (tgt : Int)) (kt : x ≤ y → Ev l G d mc ms M tgt ls st h Q) (kf : ¬ x ≤ y → Ev l G d mc ms M (pc + 3) ls st h Q) : Ev l G d mc ms M pc ls (.int y :: .int x :: st) h Q := by
  intro p e R s m args below meth c H locs cells slots lv C a1 a2 a3 a4 hP hS hl
  exact lv_icmp_le C.1 C.2.1 hdg ht (fun z => kt z p e R s m args below meth c H locs cells slots lv C a1 a2 a3 a4 hP hS hl) (fun z => kf z p e R s m args below meth c H locs cells slots lv C a1 a2 a3 a4 hP hS hl)

theorem Ev_if_le {x : Int32} {off : Int} (tgt : Nat) (hdg : decode M.2.1 pc = .ok (.ifCond .le off, 3)) (ht : (pc : Int) + off = (tgt : Int)) (kt : x ≤ 0 → Ev l G d mc ms M tgt ls st h Q) (kf : ¬ x ≤ 0 → Ev l G d mc ms M (pc + 3) ls st h Q) : Ev l G d mc ms M pc ls (.int x :: st) h Q := by
  intro p e R s m args below meth c H locs cells slots lv C a1 a2 a3 a4 hP hS hl
  exact lv_if_le C.1 C.2.1 hdg ht (fun z => kt z p e R s m args below meth c H locs cells slots lv C a1 a2 a3 a4 hP hS hl) (fun z => kf z p e R s m args below meth c H locs cells slots lv C a1 a2 a3 a4 hP hS hl)

theorem Ev_goto {off : Int} (tgt : Nat) (hdg : decode M.2.1 pc = .ok (.goto off, 3)) (ht : (pc : Int) + off = (tgt : Int)) (kk : Ev l G d mc ms M tgt ls st h Q) : Ev l G d mc ms M pc ls st h Q := by
  intro p e R s m args below meth c H locs cells slots lv C a1 a2 a3 a4 hP hS hl
  exact lv_goto C.1 C.2.1 hdg ht (kk p e R s m args below meth c H locs cells slots lv C a1 a2 a3 a4 hP hS hl)

theorem Ev_ifnull {o : Option Nat} {off : Int} (tgt : Nat) (hdg : decode M.2.1 pc = .ok (.ifnull off, 3)) (ht : (pc : Int) + off = (tgt : Int)) (kt : o = none → Ev l G d mc ms M tgt ls st h Q) (kf : ∀ a, o = some a → Ev l G d mc ms M (pc + 3) ls st h Q) : Ev l G d mc ms M pc ls (rv o :: st) h Q := by
  intro p e R s m args below meth c H locs cells slots lv C a1 a2 a3 a4 hP hS hl
  cases o with
  | none => exact lv_ifnullN C.1 C.2.1 hdg ht (kt rfl p e R s m args below meth c H locs cells slots lv C a1 a2 a3 a4 hP hS hl)
  | some a => exact lv_ifnull C.1 C.2.1 hdg (kf a rfl p e R s m args below meth c H locs cells slots lv C a1 a2 a3 a4 hP hS hl)

theorem Ev_ifnonnull {o : Option Nat} {off : Int} (tgt : Nat) (hdg : decode M.2.1 pc = .ok (.ifnonnull off, 3)) (ht : (pc : Int) + off = (tgt : Int)) (kt : ∀ a, o = some a → Ev l G d mc ms M tgt ls st h Q) (kf : o = none → Ev l G d mc ms M (pc + 3) ls st h Q) : Ev l G d mc ms M pc ls (rv o :: st) h Q := by
  intro p e R s m args below meth c H locs cells slots lv C a1 a2 a3 a4 hP hS hl
  cases o with
  | none => exact lv_ifnonnullN C.1 C.2.1 hdg (kf rfl p e R s m args below meth c H locs cells slots lv C a1 a2 a3 a4 hP hS hl)
  | some a => exact lv_ifnonnull C.1 C.2.1 hdg ht (kt a rfl p e R s m args below meth c H locs cells slots lv C a1 a2 a3 a4 hP hS hl)

theorem ad_inj (G : aG) {s : State} {H : Heap} (hW : aWd G s H) {a b : Nat} (ha : a = 1 ∨ 3 ≤ a) (hb : b = 1 ∨ 3 ≤ b) (e : ad G a = ad G b) : a = b := by
  have h9 : ge G < gB G := hW.2.2.2.2.2.2.2.2
  rcases ha with rfl | ha <;> rcases hb with rfl | hb
  · rfl
  · rw [ad_3 G hb] at e
    have : ad G 1 = ge G := rfl
    omega
  · rw [ad_3 G ha] at e
    have : ad G 1 = ge G := rfl
    omega
  · rw [ad_3 G ha, ad_3 G hb] at e
    omega
theorem ad_injO (G : aG) {s : State} {H : Heap} (hW : aWd G s H) {x y : Option Nat} (hx : ∀ a, x = some a → a = 1 ∨ 3 ≤ a) (hy : ∀ a, y = some a → a = 1 ∨ 3 ≤ a) : x.map (ad G) = y.map (ad G) ↔ x = y := by
  constructor
  · intro e
    cases x <;> cases y
    · rfl
    · cases e
    · cases e
    · exact congrArg some (ad_inj G hW (hx _ rfl) (hy _ rfl) (Option.some.inj e))
  · intro e; rw [e]

theorem Ev_acmp_eq {x y : Option Nat} {off : Int} (tgt : Nat) (hdg : decode M.2.1 pc = .ok (.if_acmp .eq off, 3)) (ht : (pc : Int) + off = (tgt : Int)) (hx : ∀ a, x = some a → a = 1 ∨ 3 ≤ a) (hy : ∀ a, y = some a → a = 1 ∨ 3 ≤ a) (kt : x = y → Ev l G d mc ms M tgt ls st h Q) (kf : ¬ x = y → Ev l G d mc ms M (pc + 3) ls st h Q) : Ev l G d mc ms M pc ls (rv y :: rv x :: st) h Q := by
  intro p e R s m args below meth c H locs cells slots lv C a1 a2 a3 a4 hP hS hl
  have E := ad_injO G C.2.2.2.2.2.2.2.2 hx hy
  have Z : List.map (tv G) (rv y :: rv x :: st) = va_rf (y.map (ad G)) :: va_rf (x.map (ad G)) :: st.map (tv G) := by
    rw [← tv_rv, ← tv_rv]; rfl
  rw [Z]
  exact lv_acmp_eq (rx := x.map (ad G)) (ry := y.map (ad G)) C.1 C.2.1 hdg ht (fun z => kt (E.mp z) p e R s m args below meth c H locs cells slots lv C a1 a2 a3 a4 hP hS hl) (fun z => kf (fun q => z (E.mpr q)) p e R s m args below meth c H locs cells slots lv C a1 a2 a3 a4 hP hS hl)

theorem Ev_acmp_ne {x y : Option Nat} {off : Int} (tgt : Nat) (hdg : decode M.2.1 pc = .ok (.if_acmp .ne off, 3)) (ht : (pc : Int) + off = (tgt : Int)) (hx : ∀ a, x = some a → a = 1 ∨ 3 ≤ a) (hy : ∀ a, y = some a → a = 1 ∨ 3 ≤ a) (kt : ¬ x = y → Ev l G d mc ms M tgt ls st h Q) (kf : x = y → Ev l G d mc ms M (pc + 3) ls st h Q) : Ev l G d mc ms M pc ls (rv y :: rv x :: st) h Q := by
  intro p e R s m args below meth c H locs cells slots lv C a1 a2 a3 a4 hP hS hl
  have E := ad_injO G C.2.2.2.2.2.2.2.2 hx hy
  have Z : List.map (tv G) (rv y :: rv x :: st) = va_rf (y.map (ad G)) :: va_rf (x.map (ad G)) :: st.map (tv G) := by
    rw [← tv_rv, ← tv_rv]; rfl
  rw [Z]
  exact lv_acmp_ne (rx := x.map (ad G)) (ry := y.map (ad G)) C.1 C.2.1 hdg ht (fun z => kt (fun q => z (E.mpr q)) p e R s m args below meth c H locs cells slots lv C a1 a2 a3 a4 hP hS hl) (fun z => kf (E.mp z) p e R s m args below meth c H locs cells slots lv C a1 a2 a3 a4 hP hS hl)

theorem Ev_tableIn {dflt lo hi : Int} {offs : Array Int} {len : Nat} {x : Int32} {off : Int} (tgt : Nat) (hdg : decode M.2.1 pc = .ok (.tableswitch dflt lo hi offs, len)) (h1 : ¬ x.toInt < lo) (h2 : ¬ hi < x.toInt) (ho : offs[(x.toInt - lo).toNat]? = some off) (ht : (pc : Int) + off = (tgt : Int)) (kk : Ev l G d mc ms M tgt ls st h Q) : Ev l G d mc ms M pc ls (.int x :: st) h Q := by
  intro p e R s m args below meth c H locs cells slots lv C a1 a2 a3 a4 hP hS hl
  exact lv_tableIn C.1 C.2.1 hdg h1 h2 ho ht (kk p e R s m args below meth c H locs cells slots lv C a1 a2 a3 a4 hP hS hl)

theorem Ev_tableOut {dflt lo hi : Int} {offs : Array Int} {len : Nat} {x : Int32} (tgt : Nat) (hdg : decode M.2.1 pc = .ok (.tableswitch dflt lo hi offs, len)) (h1 : x.toInt < lo ∨ hi < x.toInt) (ht : (pc : Int) + dflt = (tgt : Int)) (kk : Ev l G d mc ms M tgt ls st h Q) : Ev l G d mc ms M pc ls (.int x :: st) h Q := by
  intro p e R s m args below meth c H locs cells slots lv C a1 a2 a3 a4 hP hS hl
  exact lv_tableOut C.1 C.2.1 hdg h1 ht (kk p e R s m args below meth c H locs cells slots lv C a1 a2 a3 a4 hP hS hl)

theorem Ev_lookup {dflt : Int} {ps : Array (Int × Int)} {len : Nat} {x : Int32} {off : Int} (tgt : Nat) (hdg : decode M.2.1 pc = .ok (.lookupswitch dflt ps, len)) (hp : (ps.toList.zip (ps.toList.drop 1)).all (fun (a, next) => a.1 < next.1) = true) (ho : Op.lookupswitch.offset ps.toList dflt x.toInt = off) (ht : (pc : Int) + off = (tgt : Int)) (kk : Ev l G d mc ms M tgt ls st h Q) : Ev l G d mc ms M pc ls (.int x :: st) h Q := by
  intro p e R s m args below meth c H locs cells slots lv C a1 a2 a3 a4 hP hS hl
  exact lv_lookup C.1 C.2.1 hdg hp ho ht (kk p e R s m args below meth c H locs cells slots lv C a1 a2 a3 a4 hP hS hl)

theorem Ev_ldc {idx : Nat} {v : Int32} (hdg : decode M.2.1 pc = .ok (.ldc idx, 2)) (hw : Cond.constant M.1.cls idx v ∈ aTs) (kk : Ev l G d mc ms M (pc + 2) ls (.int v :: st) h Q) : Ev l G d mc ms M pc ls st h Q := by
  intro p e R s m args below meth c H locs cells slots lv C a1 a2 a3 a4 hP hS hl
  exact lv_ldc C.1 C.2.1 C.2.2.2.2.1 (C.2.2.2.2.2.1 _ hw) hdg (kk p e R s m args below meth c H locs cells slots lv C a1 a2 a3 a4 hP hS hl)
theorem Ev_ldcw {idx : Nat} {v : Int32} (hdg : decode M.2.1 pc = .ok (.ldc_w idx, 3)) (hw : Cond.constant M.1.cls idx v ∈ aTs) (kk : Ev l G d mc ms M (pc + 3) ls (.int v :: st) h Q) : Ev l G d mc ms M pc ls st h Q := by
  intro p e R s m args below meth c H locs cells slots lv C a1 a2 a3 a4 hP hS hl
  exact lv_ldcw C.1 C.2.1 C.2.2.2.2.1 (C.2.2.2.2.2.1 _ hw) hdg (kk p e R s m args below meth c H locs cells slots lv C a1 a2 a3 a4 hP hS hl)

theorem Ev_iret {x : Int32} (hdg : decode M.2.1 pc = .ok (.ireturn, 1)) (hr : M.2.2.2 = some .int) (hq : Q (some (.int x)) h) : Ev l G d mc ms M pc ls [.int x] h Q := by
  intro p e R s m args below meth c H locs cells slots lv C a1 a2 a3 a4 hP hS hl
  refine W.widen (k := R.cells) (n := R.slots) (by omega) (by omega) ?_
  exact W.iret (v := x) C.1 C.2.1 (C.2.2.2.1.trans hr) (fun t ht hW => ⟨some (.int x), h, rfl, hq, by rw [ht]; exact hP, fun q hq' => by rw [ht]; exact hS.2.1 q (Nat.lt_of_lt_of_le hq' C.2.2.2.2.2.2.2.2.2.2.2.2.2.2.2.1) (by omega), by rw [ht]; exact hS.1⟩) hS.2.2 hdg C.2.2.2.2.2.2.1

theorem Ev_zret {x : Int32} (hdg : decode M.2.1 pc = .ok (.ireturn, 1)) (hr : M.2.2.2 = some .boolean) (hx : x = 0 ∨ x = 1) (hq : Q (some (.int x)) h) : Ev l G d mc ms M pc ls [.int x] h Q := by
  intro p e R s m args below meth c H locs cells slots lv C a1 a2 a3 a4 hP hS hl
  refine W.widen (k := R.cells) (n := R.slots) (by omega) (by omega) ?_
  exact W.zret (v := x) (ty := .boolean) C.1 C.2.1 (C.2.2.2.1.trans hr) (by rcases hx with rfl | rfl <;> rfl) (fun t ht hW => ⟨some (.int x), h, rfl, hq, by rw [ht]; exact hP, fun q hq' => by rw [ht]; exact hS.2.1 q (Nat.lt_of_lt_of_le hq' C.2.2.2.2.2.2.2.2.2.2.2.2.2.2.2.1) (by omega), by rw [ht]; exact hS.1⟩) hS.2.2 hdg C.2.2.2.2.2.2.1

theorem Ev_vret (hdg : decode M.2.1 pc = .ok (.return_, 1)) (hr : M.2.2.2 = none) (hq : Q none h) : Ev l G d mc ms M pc ls [] h Q := by
  intro p e R s m args below meth c H locs cells slots lv C a1 a2 a3 a4 hP hS hl
  refine W.widen (k := R.cells) (n := R.slots) (by omega) (by omega) ?_
  exact W.vret C.1 C.2.1 (C.2.2.2.1.trans hr) (fun t ht hW => ⟨none, h, rfl, hq, by rw [ht]; exact hP, fun q hq' => by rw [ht]; exact hS.2.1 q (Nat.lt_of_lt_of_le hq' C.2.2.2.2.2.2.2.2.2.2.2.2.2.2.2.1) (by omega), by rw [ht]; exact hS.1⟩) hS.2.2 hdg C.2.2.2.2.2.2.1

theorem Ev_aret {rt : FieldType} {v : Value} (hdg : decode M.2.1 pc = .ok (.areturn, 1)) (hr : M.2.2.2 = some rt) (hrt : (∃ n, rt = .object n) ∨ ∃ t, rt = .array t) (hv : v = .null ∨ ∃ a, v = .ref a) (hq : Q (some v) h) : Ev l G d mc ms M pc ls [v] h Q := by
  intro p e R s m args below meth c H locs cells slots lv C a1 a2 a3 a4 hP hS hl
  refine W.widen (k := R.cells) (n := R.slots) (by omega) (by omega) ?_
  exact W.aret (v := tv G v) C.1 C.2.1 (C.2.2.2.1.trans hr) hrt (by rcases hv with rfl | ⟨a, rfl⟩ <;> first | exact Or.inl rfl | exact Or.inr ⟨_, rfl⟩) (fun t ht hW => ⟨some v, h, rfl, hq, by rw [ht]; exact hP, fun q hq' => by rw [ht]; exact hS.2.1 q (Nat.lt_of_lt_of_le hq' C.2.2.2.2.2.2.2.2.2.2.2.2.2.2.2.1) (by omega), by rw [ht]; exact hS.1⟩) hS.2.2 hdg C.2.2.2.2.2.2.1

end EV
