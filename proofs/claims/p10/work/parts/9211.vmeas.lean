set_option maxRecDepth 100000 in
set_option maxHeartbeats 2000000 in
theorem x_measures_v (f a : Int32) (F : Nat) (hF : f.toNatClampNeg = F) (mi : Nat → Int32) (ma : Nat → Nat → Int32) (u : Nat → Int32) : x_measures f a mi (setc ma F u) = lf mi ma F (v_measures a mi u) := by
  unfold x_measures v_measures
  simp only [hF, up_setc, setc_at, bd_setc, lf_bd, bc_lf2, lf_ite, lf_pair, x_doubles_v (F := F) (hF := hF), x_opens_v (F := F) (hF := hF), x_mayNext_v (F := F) (hF := hF), x_loses_v (F := F) (hF := hF)]
