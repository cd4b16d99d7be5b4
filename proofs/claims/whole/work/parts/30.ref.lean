theorem ev_isIn (l : Launch) (G : aG) (x lo hi : Int32) (h : aH) : Ev l G 0 0 0 mX11_isIn 0 (en 3 [.int x, .int lo, .int hi]) [] h (Ex (some (.int (if lo.toInt ≤ x.toInt ∧ x.toInt ≤ hi.toInt then (1 : Int32) else 0))) h) := by
  refine Ev_iload_n dX11_isIn_0 rfl ?_
  refine Ev_iload_n dX11_isIn_1 rfl ?_
  refine Ev_icmp_ltT 14 dX11_isIn_2 (by decide) (fun c2 => ?_) (fun c2 => ?_)
  · refine Ev_iconst (v := nI 0) dX11_isIn_14 (by decide) ?_
    refine Ev_zret dX11_isIn_15 rfl (by decide) ?_
    sorry
  · refine Ev_iload_n dX11_isIn_5 rfl ?_
    refine Ev_iload_n dX11_isIn_6 rfl ?_
    refine Ev_icmp_gtT 14 dX11_isIn_7 (by decide) (fun c7 => ?_) (fun c7 => ?_)
    · refine Ev_iconst (v := nI 0) dX11_isIn_14 (by decide) ?_
      refine Ev_zret dX11_isIn_15 rfl (by decide) ?_
      sorry
    · refine Ev_iconst (v := nI 1) dX11_isIn_10 (by decide) ?_
      refine Ev_goto 15 dX11_isIn_11 (by decide) ?_
      refine Ev_zret dX11_isIn_15 rfl (by decide) ?_
      sorry
