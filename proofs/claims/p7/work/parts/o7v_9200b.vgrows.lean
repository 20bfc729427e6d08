set_option maxRecDepth 100000 in
def v_grows_331 (mi u : Nat → Int32) (j4 : Int64) : VT := bd (u 66) (fun v1 => bd (u 47) (fun v2 => bd ((555008 : Int32) / v2) (fun v3 => bd (v1 + v3) (fun v4 => bd (upd u 66 v4) (fun u5 => bd (u5 47) (fun v6 => bd (v6.toInt64) (fun w7 => bd (j4 - w7) (fun w8 => bd (w8 * (1024 : Int64)) (fun w9 => bd (u5 47) (fun v10 => bd (v10.toInt64) (fun w11 => bd (w9 / w11) (fun w12 => bd (w12.toInt32) (fun v13 => bd (u5 47) (fun v14 => (if v13 ≤ (1 : Int32) then bd (v14 + (1 : Int32)) (fun v15 => bd (u5 66) (fun v16 => (if v16 ≤ v15 then bd (v_opens v15 mi u5) (fun p17 => (p17.1, 0)) else bd (u5 66) (fun v18 => bd (v_opens v18 mi u5) (fun p19 => (p19.1, 0)))))) else bd (v14 + v13) (fun v20 => bd (u5 66) (fun v21 => (if v21 ≤ v20 then bd (v_opens v20 mi u5) (fun p22 => (p22.1, 0)) else bd (u5 66) (fun v23 => bd (v_opens v23 mi u5) (fun p24 => (p24.1, 0)))))))))))))))))))))
set_option maxRecDepth 100000 in
def v_grows_255 (mi u : Nat → Int32) (j2 : Int64) : VT := bd (u 65) (fun v25 => bd (v25.toInt64) (fun w26 => bd (j2 * j2) (fun w27 => bd (w27 * j2) (fun w28 => bd (w28 * (4096 : Int64)) (fun w29 => bd (w29 / (10000000000 : Int64)) (fun w30 => bd (w26 + w30) (fun w31 => bd (u 47) (fun v32 => bd (v32 * (3 : Int32)) (fun v33 => bd (v33 / (2 : Int32)) (fun v34 => bd (v34.toInt64) (fun w35 => bd (u 47) (fun v36 => bd (v36.toInt64) (fun w37 => bd (lg_cmp w31 w37) (fun v38 => (if (0 : Int32) ≤ v38 then bd (lg_cmp w31 w35) (fun v39 => (if v39 ≤ (0 : Int32) then v_grows_331 mi u w31 else v_grows_331 mi u w35)) else bd (u 47) (fun v40 => bd (v40.toInt64) (fun w41 => v_grows_331 mi u w41)))))))))))))))))
set_option maxRecDepth 100000 in
def v_grows_192 (mi u : Nat → Int32) : VT := bd (mi 4) (fun v42 => bd (v42.toInt64) (fun w43 => bd (u 67) (fun v44 => bd (v44.toInt64) (fun w45 => bd (w43 - w45) (fun w46 => bd (u 50) (fun v47 => bd (v47 / (8 : Int32)) (fun v48 => bd (v48.toInt64) (fun w49 => bd (w46 + w49) (fun w50 => bd (u 64) (fun v51 => bd (v51.toInt64) (fun w52 => bd (w50 - w52) (fun w53 => bd (lg_cmp w53 ((-100000) : Int64)) (fun v54 => (if (0 : Int32) ≤ v54 then bd (lg_cmp w53 (100000 : Int64)) (fun v55 => (if v55 ≤ (0 : Int32) then v_grows_255 mi u w53 else v_grows_255 mi u (100000 : Int64))) else v_grows_255 mi u ((-100000) : Int64)))))))))))))))
set_option maxRecDepth 100000 in
def v_grows_108 : Nat → (Nat → Int32) → (Nat → Int32) → Int64 → Int32 → VT
  | 0, _, u, _, _ => (u, 0)
  | fu + 1, mi, u, j2, i4 => bd (i4.toInt64) (fun w56 => bd (w56 + (1 : Int64)) (fun w57 => bd (i4.toInt64) (fun w58 => bd (w58 + (1 : Int64)) (fun w59 => bd (w57 * w59) (fun w60 => bd (i4.toInt64) (fun w61 => bd (w61 + (1 : Int64)) (fun w62 => bd (w60 * w62) (fun w63 => bd (lg_cmp w63 j2) (fun v64 => (if (0 : Int32) < v64 then bd (upd u 64 i4) (fun u65 => bd (u65 63) (fun v66 => bd (u65 47) (fun v67 => (if v66 ≤ v67 then bd (u65 47) (fun v68 => bd (upd u65 65 v68) (fun u69 => bd (u69 47) (fun v70 => bd (upd u69 66 v70) (fun u71 => v_grows_192 mi u71)))) else bd (u65 63) (fun v72 => bd (upd u65 65 v72) (fun u73 => bd (u73 47) (fun v74 => bd (upd u73 66 v74) (fun u75 => v_grows_192 mi u75)))))))) else bd (i4 + 1) (fun v76 => v_grows_108 fu mi u j2 v76)))))))))))
set_option maxRecDepth 100000 in
def v_grows (mi u : Nat → Int32) : VT := bd (u 42) (fun v77 => (if v77 = (2 : Int32) then bd (u 67) (fun v78 => (if v78 = ((-1) : Int32) then bd (mi 4) (fun v79 => bd (upd u 67 v79) (fun u80 => bd (u80 47) (fun v81 => bd (u80 63) (fun v82 => (if v82 ≤ v81 then v_grows_108 8701 mi u80 (0 : Int64) (0 : Int32) else bd (u80 63) (fun v83 => bd (u80 47) (fun v84 => bd (v83 - v84) (fun v85 => bd (v85.toInt64) (fun w86 => bd (w86 * (2500000000 : Int64)) (fun w87 => bd (w87 / (1024 : Int64)) (fun w88 => v_grows_108 8701 mi u80 w88 (0 : Int32)))))))))))) else v_grows_192 mi u)) else bd (u 47) (fun v89 => bd ((1048576 : Int32) / v89) (fun v90 => bd (u 47) (fun v91 => (if v90 ≤ (1 : Int32) then bd (v91 + (1 : Int32)) (fun v92 => bd (v_opens v92 mi u) (fun p93 => (p93.1, 0))) else bd (v91 + v90) (fun v94 => bd (v_opens v94 mi u) (fun p95 => (p95.1, 0)))))))))
set_option maxRecDepth 100000 in
set_option maxHeartbeats 2000000 in
theorem x_grows_331_v (f : Int32) (F : Nat) (hF : f.toNatClampNeg = F) (mi : Nat → Int32) (ma : Nat → Nat → Int32) (u : Nat → Int32) (j4 : Int64) : x_grows_331 f mi (setc ma F u) j4 = lf mi ma F (v_grows_331  mi u j4) := by
  unfold x_grows_331 v_grows_331
  simp only [hF, up_setc, setc_at, bd_setc, lf_bd, bc_lf2, lf_ite, lf_pair, x_doubles_v (F := F) (hF := hF), x_opens_v (F := F) (hF := hF), x_mayNext_v (F := F) (hF := hF), x_loses_v (F := F) (hF := hF), x_measures_v (F := F) (hF := hF)]
set_option maxRecDepth 100000 in
set_option maxHeartbeats 2000000 in
theorem x_grows_255_v (f : Int32) (F : Nat) (hF : f.toNatClampNeg = F) (mi : Nat → Int32) (ma : Nat → Nat → Int32) (u : Nat → Int32) (j2 : Int64) : x_grows_255 f mi (setc ma F u) j2 = lf mi ma F (v_grows_255  mi u j2) := by
  unfold x_grows_255 v_grows_255
  simp only [hF, up_setc, setc_at, bd_setc, lf_bd, bc_lf2, lf_ite, lf_pair, x_doubles_v (F := F) (hF := hF), x_opens_v (F := F) (hF := hF), x_mayNext_v (F := F) (hF := hF), x_loses_v (F := F) (hF := hF), x_measures_v (F := F) (hF := hF), x_grows_331_v (F := F) (hF := hF)]
set_option maxRecDepth 100000 in
set_option maxHeartbeats 2000000 in
theorem x_grows_192_v (f : Int32) (F : Nat) (hF : f.toNatClampNeg = F) (mi : Nat → Int32) (ma : Nat → Nat → Int32) (u : Nat → Int32) : x_grows_192 f mi (setc ma F u)  = lf mi ma F (v_grows_192  mi u ) := by
  unfold x_grows_192 v_grows_192
  simp only [hF, up_setc, setc_at, bd_setc, lf_bd, bc_lf2, lf_ite, lf_pair, x_doubles_v (F := F) (hF := hF), x_opens_v (F := F) (hF := hF), x_mayNext_v (F := F) (hF := hF), x_loses_v (F := F) (hF := hF), x_measures_v (F := F) (hF := hF), x_grows_331_v (F := F) (hF := hF), x_grows_255_v (F := F) (hF := hF)]
set_option maxRecDepth 100000 in
set_option maxHeartbeats 2000000 in
theorem x_grows_108_v (f : Int32) (F : Nat) (hF : f.toNatClampNeg = F) (mi : Nat → Int32) (ma : Nat → Nat → Int32) : ∀ (fu : Nat) (j2 : Int64) (i4 : Int32) (u : Nat → Int32), x_grows_108 f fu mi (setc ma F u) j2 i4 = lf mi ma F (v_grows_108  fu mi u j2 i4) := by
  intro fu
  induction fu with
  | zero => intros; rfl
  | succ fu ih =>
    intro j2 i4 u
    rw [x_grows_108, v_grows_108]
    simp only [hF, up_setc, setc_at, bd_setc, lf_bd, bc_lf2, lf_ite, lf_pair, x_doubles_v (F := F) (hF := hF), x_opens_v (F := F) (hF := hF), x_mayNext_v (F := F) (hF := hF), x_loses_v (F := F) (hF := hF), x_measures_v (F := F) (hF := hF), x_grows_331_v (F := F) (hF := hF), x_grows_255_v (F := F) (hF := hF), x_grows_192_v (F := F) (hF := hF), ih]
set_option maxRecDepth 100000 in
set_option maxHeartbeats 2000000 in
theorem x_grows_v (f : Int32) (F : Nat) (hF : f.toNatClampNeg = F) (mi : Nat → Int32) (ma : Nat → Nat → Int32) (u : Nat → Int32) : x_grows f mi (setc ma F u) = lf mi ma F (v_grows  mi u) := by
  unfold x_grows v_grows
  simp only [hF, up_setc, setc_at, bd_setc, lf_bd, bc_lf2, lf_ite, lf_pair, x_doubles_v (F := F) (hF := hF), x_opens_v (F := F) (hF := hF), x_mayNext_v (F := F) (hF := hF), x_loses_v (F := F) (hF := hF), x_measures_v (F := F) (hF := hF), x_grows_331_v (F := F) (hF := hF), x_grows_255_v (F := F) (hF := hF), x_grows_192_v (F := F) (hF := hF), x_grows_108_v (F := F) (hF := hF)]
