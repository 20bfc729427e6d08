set_option maxRecDepth 100000 in
set_option maxHeartbeats 2000000 in
theorem x_grows_331_v (f : Int32) (F : Nat) (hF : f.toNatClampNeg = F) (mi : Nat → Int32) (ma : Nat → Nat → Int32) (u : Nat → Int32) (j4 : Int64) : x_grows_331 f mi (setc ma F u) j4 = lf mi ma F (v_grows_331  mi u j4) := by
  unfold x_grows_331 v_grows_331
  simp only [hF, up_setc, setc_at, bd_setc, lf_bd, bc_lf2, lf_ite, lf_pair, x_doubles_v (F := F) (hF := hF), x_opens_v (F := F) (hF := hF), x_mayNext_v (F := F) (hF := hF), x_loses_v (F := F) (hF := hF), x_measures_v (F := F) (hF := hF)]
set_option maxRecDepth 100000 in
set_option maxHeartbeats 2000000 in
theorem x_grows_255_v (f : Int32) (F : Nat) (hF : f.toNatClampNeg = F) (mi : Nat → Int32) (ma : Nat → Nat → Int32) (u : Nat → Int32) (j2 : Int64) : x_grows_255 f mi (setc ma F u) j2 = lf mi ma F (v_grows_255  mi u j2) := by
  unfold x_grows_255 v_grows_255
  simp only [hF, up_setc, setc_at, bd_setc, lf_bd, bc_lf2, lf_ite, lf_pair, x_doubles_v (F := F) (hF := hF), x_opens_v (F := F) (hF := hF), x_mayNext_v (F := F) (hF := hF), x_loses_v (F := F) (hF := hF), x_measures_v (F := F) (hF := hF), x_grows_331_v (F := F) (hF := hF)]
set_option maxRecDepth 100000 in
set_option maxHeartbeats 2000000 in
theorem x_grows_192_v (f : Int32) (F : Nat) (hF : f.toNatClampNeg = F) (mi : Nat → Int32) (ma : Nat → Nat → Int32) (u : Nat → Int32) : x_grows_192 f mi (setc ma F u)  = lf mi ma F (v_grows_192  mi u ) := by
  unfold x_grows_192 v_grows_192
  simp only [hF, up_setc, setc_at, bd_setc, lf_bd, bc_lf2, lf_ite, lf_pair, x_doubles_v (F := F) (hF := hF), x_opens_v (F := F) (hF := hF), x_mayNext_v (F := F) (hF := hF), x_loses_v (F := F) (hF := hF), x_measures_v (F := F) (hF := hF), x_grows_331_v (F := F) (hF := hF), x_grows_255_v (F := F) (hF := hF)]
set_option maxRecDepth 100000 in
set_option maxHeartbeats 2000000 in
theorem x_grows_108_v (f : Int32) (F : Nat) (hF : f.toNatClampNeg = F) (mi : Nat → Int32) (ma : Nat → Nat → Int32) : ∀ (fu : Nat) (j2 : Int64) (i4 : Int32) (u : Nat → Int32), x_grows_108 f fu mi (setc ma F u) j2 i4 = lf mi ma F (v_grows_108  fu mi u j2 i4) := by
  intro fu
  induction fu with
  | zero => intros; rfl
  | succ fu ih =>
    intro j2 i4 u
    rw [x_grows_108, v_grows_108]
    simp only [hF, up_setc, setc_at, bd_setc, lf_bd, bc_lf2, lf_ite, lf_pair, x_doubles_v (F := F) (hF := hF), x_opens_v (F := F) (hF := hF), x_mayNext_v (F := F) (hF := hF), x_loses_v (F := F) (hF := hF), x_measures_v (F := F) (hF := hF), x_grows_331_v (F := F) (hF := hF), x_grows_255_v (F := F) (hF := hF), x_grows_192_v (F := F) (hF := hF), ih]
set_option maxRecDepth 100000 in
set_option maxHeartbeats 2000000 in
theorem x_grows_v (f : Int32) (F : Nat) (hF : f.toNatClampNeg = F) (mi : Nat → Int32) (ma : Nat → Nat → Int32) (u : Nat → Int32) : x_grows f mi (setc ma F u) = lf mi ma F (v_grows  mi u) := by
  unfold x_grows v_grows
  simp only [hF, up_setc, setc_at, bd_setc, lf_bd, bc_lf2, lf_ite, lf_pair, x_doubles_v (F := F) (hF := hF), x_opens_v (F := F) (hF := hF), x_mayNext_v (F := F) (hF := hF), x_loses_v (F := F) (hF := hF), x_measures_v (F := F) (hF := hF), x_grows_331_v (F := F) (hF := hF), x_grows_255_v (F := F) (hF := hF), x_grows_192_v (F := F) (hF := hF), x_grows_108_v (F := F) (hF := hF)]
