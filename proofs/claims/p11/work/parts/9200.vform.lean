abbrev VT : Type := (Nat → Int32) × Int32
def col (ma : Nat → Nat → Int32) (F : Nat) : Nat → Int32 := fun k => ma k F
def setc (ma : Nat → Nat → Int32) (F : Nat) (u : Nat → Int32) : Nat → Nat → Int32 := fun k i => if i = F then u k else ma k i
def lf (mi : Nat → Int32) (ma : Nat → Nat → Int32) (F : Nat) (p : VT) : XT := (mi, setc ma F p.1, p.2)
theorem setc_at {ma : Nat → Nat → Int32} {F k : Nat} {u : Nat → Int32} : setc ma F u k F = u k := if_pos rfl
theorem setc_ne {ma : Nat → Nat → Int32} {F k i : Nat} {u : Nat → Int32} (h : i ≠ F) : setc ma F u k i = ma k i := if_neg h
theorem col_setc {ma : Nat → Nat → Int32} {F : Nat} {u : Nat → Int32} : col (setc ma F u) F = u := funext fun k => setc_at
theorem setc_col {ma : Nat → Nat → Int32} {F : Nat} : setc ma F (col ma F) = ma := by
  funext k i
  unfold setc col
  by_cases h : i = F
  · rw [if_pos h, h]
  · rw [if_neg h]
theorem setc_setc {ma : Nat → Nat → Int32} {F : Nat} {u w : Nat → Int32} : setc (setc ma F u) F w = setc ma F w := by
  funext k i
  unfold setc
  by_cases h : i = F
  · rw [if_pos h, if_pos h]
  · rw [if_neg h, if_neg h, if_neg h]
theorem upd_a {f : Nat → Int32} {k : Nat} {v : Int32} : upd f k v k = v := if_pos rfl
theorem upd_b {f : Nat → Int32} {j k : Nat} {v : Int32} (h : j ≠ k) : upd f k v j = f j := if_neg h
theorem up_setc {ma : Nat → Nat → Int32} {F k : Nat} {u : Nat → Int32} {v : Int32} : va_up (setc ma F u) k (upd (setc ma F u k) F v) = setc ma F (upd u k v) := by
  funext j i
  by_cases hj : j = k
  · subst hj
    rw [va_up_self]
    by_cases h : i = F
    · subst h
      rw [upd_a, setc_at, upd_a]
    · rw [upd_b h, setc_ne h, setc_ne h]
  · rw [va_up_ne _ _ hj]
    by_cases h : i = F
    · subst h
      rw [setc_at, setc_at, upd_b hj]
    · rw [setc_ne h, setc_ne h]
theorem bd_setc {β : Type} {ma : Nat → Nat → Int32} {F : Nat} {u : Nat → Int32} {k : (Nat → Nat → Int32) → β} : bd (setc ma F u) k = bd u (fun x => k (setc ma F x)) := Eq.symm (Eq.symm rfl)
theorem lf_bd {α : Type} {mi : Nat → Int32} {ma : Nat → Nat → Int32} {F : Nat} {a : α} {k : α → VT} : lf mi ma F (bd a k) = bd a (fun x => lf mi ma F (k x)) := Eq.symm (Eq.symm rfl)
theorem bc_lf2 {β : Type} {mi : Nat → Int32} {ma : Nat → Nat → Int32} {F : Nat} {p : VT} {k : (Nat → Int32) → (Nat → Nat → Int32) → Int32 → β} : bc (lf mi ma F p) k = bd p (fun p => k mi (setc ma F p.1) p.2) := Eq.symm (Eq.symm rfl)
theorem bc_lf {β : Type} {mi : Nat → Int32} {ma : Nat → Nat → Int32} {F : Nat} {p : VT} {k : (Nat → Int32) → (Nat → Nat → Int32) → Int32 → β} : bc (lf mi ma F p) k = k mi (setc ma F p.1) p.2 := Eq.symm (Eq.symm rfl)
theorem lf_ite {mi : Nat → Int32} {ma : Nat → Nat → Int32} {F : Nat} {c : Prop} [Decidable c] {a b : VT} : lf mi ma F (if c then a else b) = if c then lf mi ma F a else lf mi ma F b := by
  split <;> rfl
theorem lf_pair {mi : Nat → Int32} {ma : Nat → Nat → Int32} {F : Nat} {u : Nat → Int32} {r : Int32} : lf mi ma F (u, r) = (mi, setc ma F u, r) := Eq.symm (Eq.symm rfl)
set_option maxRecDepth 100000 in
def v_doubles (mi u : Nat → Int32) : VT := bd (u 49) (fun v1 => bd ((2 : Int32) * v1) (fun v2 => (if v2 ≤ (60000 : Int32) then bd (u 49) (fun v3 => bd ((2 : Int32) * v3) (fun v4 => bd (upd u 49 v4) (fun u5 => (u5, 0)))) else bd (upd u 49 (60000 : Int32)) (fun u6 => (u6, 0)))))
set_option maxRecDepth 100000 in
def v_opens (to : Int32) (mi u : Nat → Int32) : VT := (if to ≤ (262144 : Int32) then bd (upd u 47 to) (fun u1 => bd (u1 47) (fun v2 => bd (u1 68) (fun v3 => (if v2 ≤ v3 then bd (u1 68) (fun v4 => bd (upd u1 68 v4) (fun u5 => (u5, 0))) else bd (u1 47) (fun v6 => bd (upd u1 68 v6) (fun u7 => (u7, 0))))))) else bd (upd u 47 (262144 : Int32)) (fun u8 => bd (u8 47) (fun v9 => bd (u8 68) (fun v10 => (if v9 ≤ v10 then bd (u8 68) (fun v11 => bd (upd u8 68 v11) (fun u12 => (u12, 0))) else bd (u8 47) (fun v13 => bd (upd u8 68 v13) (fun u14 => (u14, 0))))))))
set_option maxRecDepth 100000 in
def v_mayNext (mi u : Nat → Int32) : VT := bd (u 45) (fun v1 => bd (u 43) (fun v2 => (if v2 ≤ v1 then (u, (0 : Int32)) else bd (u 45) (fun v3 => bd (u 44) (fun v4 => bd (u 60) (fun v5 => bd (v4 + v5) (fun v6 => (if v6 ≤ v3 then (u, (0 : Int32)) else (u, (1 : Int32))))))))))
set_option maxRecDepth 100000 in
def v_loses (mi u : Nat → Int32) : VT := bd (u 42) (fun v1 => (if v1 = (2 : Int32) then bd (u 47) (fun v2 => bd (u 63) (fun v3 => (if v3 ≤ v2 then bd (u 47) (fun v4 => bd (upd u 63 v4) (fun u5 => bd (u5 47) (fun v6 => bd (v6 * (7 : Int32)) (fun v7 => bd (v7 / (10 : Int32)) (fun v8 => (if v8 ≤ (2048 : Int32) then bd (upd u5 48 (2048 : Int32)) (fun u9 => bd (upd u9 67 ((-1) : Int32)) (fun u10 => (u10, 0))) else bd (upd u5 48 v8) (fun u11 => bd (upd u11 67 ((-1) : Int32)) (fun u12 => (u12, 0))))))))) else bd (u 47) (fun v13 => bd (v13 * (85 : Int32)) (fun v14 => bd (v14 / (100 : Int32)) (fun v15 => bd (upd u 63 v15) (fun u16 => bd (u16 47) (fun v17 => bd (v17 * (7 : Int32)) (fun v18 => bd (v18 / (10 : Int32)) (fun v19 => (if v19 ≤ (2048 : Int32) then bd (upd u16 48 (2048 : Int32)) (fun u20 => bd (upd u20 67 ((-1) : Int32)) (fun u21 => (u21, 0))) else bd (upd u16 48 v19) (fun u22 => bd (upd u22 67 ((-1) : Int32)) (fun u23 => (u23, 0)))))))))))))) else bd (u 45) (fun v24 => bd (u 44) (fun v25 => bd (v24 - v25) (fun v26 => bd (v26 * (512 : Int32)) (fun v27 => (if v27 ≤ (2048 : Int32) then bd (upd u 48 (2048 : Int32)) (fun u28 => (u28, 0)) else bd (upd u 48 v27) (fun u29 => (u29, 0)))))))))
set_option maxRecDepth 100000 in
def v_measures (a : Int32) (mi u : Nat → Int32) : VT := bd (u 69) (fun v1 => (if v1 = ((-1) : Int32) then (u, 0) else bd (u 69) (fun v2 => (if v2 < a then bd (mi 4) (fun v3 => bd (u 70) (fun v4 => bd (v3 - v4) (fun v5 => bd (upd u 69 ((-1) : Int32)) (fun u6 => bd (u6 52) (fun v7 => (if v7 = (0 : Int32) then bd (upd u6 52 (vp_nar .boolean (1 : Int32))) (fun u8 => bd ((8 : Int32) * v5) (fun v9 => bd (upd u8 50 v9) (fun u10 => bd ((2 : Int32) * v5) (fun v11 => bd (upd u10 51 v11) (fun u12 => bd (u12 50) (fun v13 => bd (v13 / (8 : Int32)) (fun v14 => bd (u12 51) (fun v15 => (if v15 ≤ (1 : Int32) then bd (v14 + (1 : Int32)) (fun v16 => (if (200 : Int32) ≤ v16 then (if v16 ≤ (60000 : Int32) then bd (upd u12 49 v16) (fun u17 => (u17, 0)) else bd (upd u12 49 (60000 : Int32)) (fun u18 => (u18, 0))) else bd (upd u12 49 (200 : Int32)) (fun u19 => (u19, 0)))) else bd (u12 51) (fun v20 => bd (v14 + v20) (fun v21 => (if (200 : Int32) ≤ v21 then (if v21 ≤ (60000 : Int32) then bd (upd u12 49 v21) (fun u22 => (u22, 0)) else bd (upd u12 49 (60000 : Int32)) (fun u23 => (u23, 0))) else bd (upd u12 49 (200 : Int32)) (fun u24 => (u24, 0)))))))))))))) else bd (u6 50) (fun v25 => bd (v25 / (8 : Int32)) (fun v26 => bd (v26 - v5) (fun v27 => bd (u6 51) (fun v28 => bd (u6 51) (fun v29 => bd (v29 / (4 : Int32)) (fun v30 => bd (v28 - v30) (fun v31 => (if (0 : Int32) ≤ v27 then bd (v31 + v27) (fun v32 => bd (upd u6 51 v32) (fun u33 => bd (u33 50) (fun v34 => bd (u33 50) (fun v35 => bd (v35 / (8 : Int32)) (fun v36 => bd (v34 - v36) (fun v37 => bd (v37 + v5) (fun v38 => bd (upd u33 50 v38) (fun u39 => bd (u39 50) (fun v40 => bd (v40 / (8 : Int32)) (fun v41 => bd (u39 51) (fun v42 => (if v42 ≤ (1 : Int32) then bd (v41 + (1 : Int32)) (fun v43 => (if (200 : Int32) ≤ v43 then (if v43 ≤ (60000 : Int32) then bd (upd u39 49 v43) (fun u44 => (u44, 0)) else bd (upd u39 49 (60000 : Int32)) (fun u45 => (u45, 0))) else bd (upd u39 49 (200 : Int32)) (fun u46 => (u46, 0)))) else bd (u39 51) (fun v47 => bd (v41 + v47) (fun v48 => (if (200 : Int32) ≤ v48 then (if v48 ≤ (60000 : Int32) then bd (upd u39 49 v48) (fun u49 => (u49, 0)) else bd (upd u39 49 (60000 : Int32)) (fun u50 => (u50, 0))) else bd (upd u39 49 (200 : Int32)) (fun u51 => (u51, 0))))))))))))))))) else bd (-v27) (fun v52 => bd (v31 + v52) (fun v53 => bd (upd u6 51 v53) (fun u54 => bd (u54 50) (fun v55 => bd (u54 50) (fun v56 => bd (v56 / (8 : Int32)) (fun v57 => bd (v55 - v57) (fun v58 => bd (v58 + v5) (fun v59 => bd (upd u54 50 v59) (fun u60 => bd (u60 50) (fun v61 => bd (v61 / (8 : Int32)) (fun v62 => bd (u60 51) (fun v63 => (if v63 ≤ (1 : Int32) then bd (v62 + (1 : Int32)) (fun v64 => (if (200 : Int32) ≤ v64 then (if v64 ≤ (60000 : Int32) then bd (upd u60 49 v64) (fun u65 => (u65, 0)) else bd (upd u60 49 (60000 : Int32)) (fun u66 => (u66, 0))) else bd (upd u60 49 (200 : Int32)) (fun u67 => (u67, 0)))) else bd (u60 51) (fun v68 => bd (v62 + v68) (fun v69 => (if (200 : Int32) ≤ v69 then (if v69 ≤ (60000 : Int32) then bd (upd u60 49 v69) (fun u70 => (u70, 0)) else bd (upd u60 49 (60000 : Int32)) (fun u71 => (u71, 0))) else bd (upd u60 49 (200 : Int32)) (fun u72 => (u72, 0)))))))))))))))))))))))))))))))) else (u, 0)))))
set_option maxRecDepth 100000 in
def v_grows_331 (mi u : Nat → Int32) (j4 : Int64) : VT := bd (u 66) (fun v1 => bd (u 47) (fun v2 => bd ((555008 : Int32) / v2) (fun v3 => bd (v1 + v3) (fun v4 => bd (upd u 66 v4) (fun u5 => bd (u5 47) (fun v6 => bd (v6.toInt64) (fun w7 => bd (j4 - w7) (fun w8 => bd (w8 * (1024 : Int64)) (fun w9 => bd (u5 47) (fun v10 => bd (v10.toInt64) (fun w11 => bd (w9 / w11) (fun w12 => bd (w12.toInt32) (fun v13 => bd (u5 47) (fun v14 => (if v13 ≤ (1 : Int32) then bd (v14 + (1 : Int32)) (fun v15 => bd (u5 66) (fun v16 => (if v16 ≤ v15 then bd (v_opens v15 mi u5) (fun p17 => (p17.1, 0)) else bd (u5 66) (fun v18 => bd (v_opens v18 mi u5) (fun p19 => (p19.1, 0)))))) else bd (v14 + v13) (fun v20 => bd (u5 66) (fun v21 => (if v21 ≤ v20 then bd (v_opens v20 mi u5) (fun p22 => (p22.1, 0)) else bd (u5 66) (fun v23 => bd (v_opens v23 mi u5) (fun p24 => (p24.1, 0)))))))))))))))))))))
set_option maxRecDepth 100000 in
def v_grows_255 (mi u : Nat → Int32) (j2 : Int64) : VT := bd (u 65) (fun v25 => bd (v25.toInt64) (fun w26 => bd (j2 * j2) (fun w27 => bd (w27 * j2) (fun w28 => bd (w28 * (4096 : Int64)) (fun w29 => bd (w29 / (10000000000 : Int64)) (fun w30 => bd (w26 + w30) (fun w31 => bd (u 47) (fun v32 => bd (v32 * (3 : Int32)) (fun v33 => bd (v33 / (2 : Int32)) (fun v34 => bd (v34.toInt64) (fun w35 => bd (u 47) (fun v36 => bd (v36.toInt64) (fun w37 => bd (lg_cmp w31 w37) (fun v38 => (if (0 : Int32) ≤ v38 then bd (lg_cmp w31 w35) (fun v39 => (if v39 ≤ (0 : Int32) then v_grows_331 mi u w31 else v_grows_331 mi u w35)) else bd (u 47) (fun v40 => bd (v40.toInt64) (fun w41 => v_grows_331 mi u w41)))))))))))))))))
set_option maxRecDepth 100000 in
def v_grows_192 (mi u : Nat → Int32) : VT := bd (mi 4) (fun v42 => bd (v42.toInt64) (fun w43 => bd (u 67) (fun v44 => bd (v44.toInt64) (fun w45 => bd (w43 - w45) (fun w46 => bd (u 50) (fun v47 => bd (v47 / (8 : Int32)) (fun v48 => bd (v48.toInt64) (fun w49 => bd (w46 + w49) (fun w50 => bd (u 64) (fun v51 => bd (v51.toInt64) (fun w52 => bd (w50 - w52) (fun w53 => bd (lg_cmp w53 ((-100000) : Int64)) (fun v54 => (if (0 : Int32) ≤ v54 then bd (lg_cmp w53 (100000 : Int64)) (fun v55 => (if v55 ≤ (0 : Int32) then v_grows_255 mi u w53 else v_grows_255 mi u (100000 : Int64))) else v_grows_255 mi u ((-100000) : Int64)))))))))))))))
set_option maxRecDepth 100000 in
def v_grows_108 : Nat → (Nat → Int32) → (Nat → Int32) → Int64 → Int32 → VT
  | 0, _, u, _, _ => (u, 0)
  | fu + 1, mi, u, j2, i4 => bd (i4.toInt64) (fun w56 => bd (w56 + (1 : Int64)) (fun w57 => bd (i4.toInt64) (fun w58 => bd (w58 + (1 : Int64)) (fun w59 => bd (w57 * w59) (fun w60 => bd (i4.toInt64) (fun w61 => bd (w61 + (1 : Int64)) (fun w62 => bd (w60 * w62) (fun w63 => bd (lg_cmp w63 j2) (fun v64 => (if (0 : Int32) < v64 then bd (upd u 64 i4) (fun u65 => bd (u65 63) (fun v66 => bd (u65 47) (fun v67 => (if v66 ≤ v67 then bd (u65 47) (fun v68 => bd (upd u65 65 v68) (fun u69 => bd (u69 47) (fun v70 => bd (upd u69 66 v70) (fun u71 => v_grows_192 mi u71)))) else bd (u65 63) (fun v72 => bd (upd u65 65 v72) (fun u73 => bd (u73 47) (fun v74 => bd (upd u73 66 v74) (fun u75 => v_grows_192 mi u75)))))))) else bd (i4 + 1) (fun v76 => v_grows_108 fu mi u j2 v76)))))))))))
set_option maxRecDepth 100000 in
def v_grows (mi u : Nat → Int32) : VT := bd (u 42) (fun v77 => (if v77 = (2 : Int32) then bd (u 67) (fun v78 => (if v78 = ((-1) : Int32) then bd (mi 4) (fun v79 => bd (upd u 67 v79) (fun u80 => bd (u80 47) (fun v81 => bd (u80 63) (fun v82 => (if v82 ≤ v81 then v_grows_108 8701 mi u80 (0 : Int64) (0 : Int32) else bd (u80 63) (fun v83 => bd (u80 47) (fun v84 => bd (v83 - v84) (fun v85 => bd (v85.toInt64) (fun w86 => bd (w86 * (2500000000 : Int64)) (fun w87 => bd (w87 / (1024 : Int64)) (fun w88 => v_grows_108 8701 mi u80 w88 (0 : Int32)))))))))))) else v_grows_192 mi u)) else bd (u 47) (fun v89 => bd ((1048576 : Int32) / v89) (fun v90 => bd (u 47) (fun v91 => (if v90 ≤ (1 : Int32) then bd (v91 + (1 : Int32)) (fun v92 => bd (v_opens v92 mi u) (fun p93 => (p93.1, 0))) else bd (v91 + v90) (fun v94 => bd (v_opens v94 mi u) (fun p95 => (p95.1, 0)))))))))
