theorem us_all : vwCl.all (fun r => (u_ws r.1 r.2.1 r.2.2).all (fun w => decide (w ∈ aTs))) = true := by decide +kernel
