set_option maxRecDepth 100000 in
set_option maxHeartbeats 2000000 in
theorem x_doubles_v (f : Int32) (F : Nat) (hF : f.toNatClampNeg = F) (mi : Nat → Int32) (ma : Nat → Nat → Int32) (u : Nat → Int32) : x_doubles f mi (setc ma F u) = lf mi ma F (v_doubles  mi u) := by
  unfold x_doubles v_doubles
  simp only [hF, up_setc, setc_at, bd_setc, lf_bd, bc_lf2, lf_ite, lf_pair]
set_option maxRecDepth 100000 in
set_option maxHeartbeats 2000000 in
theorem x_opens_v (f to : Int32) (F : Nat) (hF : f.toNatClampNeg = F) (mi : Nat → Int32) (ma : Nat → Nat → Int32) (u : Nat → Int32) : x_opens f to mi (setc ma F u) = lf mi ma F (v_opens to mi u) := by
  unfold x_opens v_opens
  simp only [hF, up_setc, setc_at, bd_setc, lf_bd, bc_lf2, lf_ite, lf_pair, x_doubles_v (F := F) (hF := hF)]
set_option maxRecDepth 100000 in
set_option maxHeartbeats 2000000 in
theorem x_mayNext_v (f : Int32) (F : Nat) (hF : f.toNatClampNeg = F) (mi : Nat → Int32) (ma : Nat → Nat → Int32) (u : Nat → Int32) : x_mayNext f mi (setc ma F u) = lf mi ma F (v_mayNext  mi u) := by
  unfold x_mayNext v_mayNext
  simp only [hF, up_setc, setc_at, bd_setc, lf_bd, bc_lf2, lf_ite, lf_pair, x_doubles_v (F := F) (hF := hF), x_opens_v (F := F) (hF := hF)]
set_option maxRecDepth 100000 in
set_option maxHeartbeats 2000000 in
theorem x_loses_v (f : Int32) (F : Nat) (hF : f.toNatClampNeg = F) (mi : Nat → Int32) (ma : Nat → Nat → Int32) (u : Nat → Int32) : x_loses f mi (setc ma F u) = lf mi ma F (v_loses  mi u) := by
  unfold x_loses v_loses
  simp only [hF, up_setc, setc_at, bd_setc, lf_bd, bc_lf2, lf_ite, lf_pair, x_doubles_v (F := F) (hF := hF), x_opens_v (F := F) (hF := hF), x_mayNext_v (F := F) (hF := hF)]
