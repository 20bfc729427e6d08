theorem lc_ge {x : Int32} {a b : Int64} (e : x = lg_cmp a b) (h : 0 ≤ x) : b.toInt ≤ a.toInt := by
  rcases Int.lt_or_le a.toInt b.toInt with q | q
  · exfalso
    rw [e] at h
    unfold lg_cmp at h
    have h1 : ¬ a > b := fun w => by have := Int64.lt_iff_toInt_lt.mp w; omega
    have h2 : ¬ a = b := fun w => by rw [w] at q; omega
    rw [if_neg h1] at h
    simp only [h2, if_false] at h
    exact absurd h (by decide)
  · exact q
theorem lc_le {x : Int32} {a b : Int64} (e : x = lg_cmp a b) (h : x ≤ 0) : a.toInt ≤ b.toInt := by
  rcases Int.lt_or_le b.toInt a.toInt with q | q
  · exfalso
    rw [e] at h
    unfold lg_cmp at h
    have h1 : a > b := Int64.lt_iff_toInt_lt.mpr q
    rw [if_pos h1] at h
    exact absurd h (by decide)
  · exact q
theorem tl_add {x a b : Int64} (e : x = a + b) (h1 : -9223372036854775808 ≤ a.toInt + b.toInt) (h2 : a.toInt + b.toInt < 9223372036854775808) : x.toInt = a.toInt + b.toInt := by
  rw [e, Int64.toInt_add]
  apply Int.bmod_eq_of_le <;> simp at * <;> omega
theorem tl_sub {x a b : Int64} (e : x = a - b) (h1 : -9223372036854775808 ≤ a.toInt - b.toInt) (h2 : a.toInt - b.toInt < 9223372036854775808) : x.toInt = a.toInt - b.toInt := by
  rw [e, Int64.toInt_sub]
  apply Int.bmod_eq_of_le <;> simp at * <;> omega
theorem tl_mulc {x a c : Int64} {k : Int} (e : x = a * c) (hc : c.toInt = k) (h1 : -9223372036854775808 ≤ a.toInt * k) (h2 : a.toInt * k < 9223372036854775808) : x.toInt = a.toInt * k := by
  rw [e, Int64.toInt_mul, hc]
  apply Int.bmod_eq_of_le <;> simp at * <;> omega
theorem tl_div {x a c : Int64} (e : x = a / c) (hc : 1 ≤ c.toInt) (h : 0 ≤ a.toInt) : 0 ≤ x.toInt ∧ x.toInt ≤ a.toInt := by
  rw [e, Int64.toInt_div, Int.tdiv_eq_ediv_of_nonneg h]
  have h1 := a.toInt_lt
  have h2 : a.toInt / c.toInt ≤ a.toInt := Int.ediv_le_self _ h
  have h3 : 0 ≤ a.toInt / c.toInt := Int.ediv_nonneg h (by omega)
  rw [Int.bmod_eq_of_le] <;> simp at * <;> omega
theorem tl_divc {x a c : Int64} {k : Int} (e : x = a / c) (hc : c.toInt = k) (hk : 0 < k) (h : 0 ≤ a.toInt) : x.toInt = a.toInt / k := by
  rw [e, Int64.toInt_div, hc, Int.tdiv_eq_ediv_of_nonneg h]
  have h1 := a.toInt_lt
  have h2 : a.toInt / k ≤ a.toInt := Int.ediv_le_self _ h
  have h3 : 0 ≤ a.toInt / k := Int.ediv_nonneg h (by omega)
  apply Int.bmod_eq_of_le <;> simp at * <;> omega
theorem third_bd {d : Int32} {a b c : Int64} (ea : a = d.toInt64) (eb : b = a * 2500000000) (ec : c = b / 1024) (h0 : 0 ≤ d.toInt) (h1 : d.toInt ≤ 262144) : c.toInt ≤ 640000000000 := by
  have ta : a.toInt = d.toInt := by rw [ea, Int32.toInt_toInt64]
  have tb := tl_mulc (k := 2500000000) eb (by decide) (by omega) (by omega)
  have tc := tl_divc (k := 1024) ec (by decide) (by decide) (by omega)
  omega
theorem cube_lt {i x : Int32} {t a0 a b0 b c0 c p q : Int64} (ea0 : a0 = i.toInt64) (ea : a = a0 + 1) (eb0 : b0 = i.toInt64) (eb : b = b0 + 1) (ec0 : c0 = i.toInt64) (ec : c = c0 + 1) (ep : p = a * b) (eq : q = p * c) (ex : x = lg_cmp q t) (hx : x ≤ 0) (h1 : i.toInt ≤ 8700) (ht : t.toInt ≤ 640000000000) : i.toInt ≤ 8699 := by
  rcases Int.lt_or_le 8699 i.toInt with w | w
  · exfalso
    have hi : i = 8700 := Int32.toInt_inj.mp (by rw [show (8700 : Int32).toInt = 8700 by decide]; omega)
    have h2 := lc_le ex hx
    rw [eq, ep, ea, eb, ec, ea0, eb0, ec0, hi] at h2
    rw [show (((8700 : Int32).toInt64 + 1) * ((8700 : Int32).toInt64 + 1) * ((8700 : Int32).toInt64 + 1)).toInt = 658730096101 by decide +kernel] at h2
    omega
  · exact w
theorem more_bd {t y w z : Int64} {c1 c2 x : Int32} {k1 k2 : Int64} (hk1 : k1 = c1.toInt64) (hk2 : k2 = c2.toInt64) (hc2 : 1 ≤ c2.toInt) (hc1 : 0 ≤ c1.toInt) (hc3 : c1.toInt ≤ 262144) (h0 : c1.toInt ≤ t.toInt) (h1 : t.toInt ≤ c1.toInt + 131072) (ey : y = t - k1) (ew : w = y * 1024) (ez : z = w / k2) (ex : x = z.toInt32) : 0 ≤ x.toInt ∧ x.toInt ≤ 134217728 := by
  have t1 : k1.toInt = c1.toInt := by rw [hk1, Int32.toInt_toInt64]
  have t2 : k2.toInt = c2.toInt := by rw [hk2, Int32.toInt_toInt64]
  have ty := tl_sub ey (by omega) (by omega)
  have tw := tl_mulc (k := 1024) ew (by decide) (by omega) (by omega)
  have tz := tl_div ez (by omega) (by omega)
  have tx : x.toInt = z.toInt := by
    rw [ex, Int64.toInt_toInt32]
    apply Int.bmod_eq_of_le <;> simp at * <;> omega
  omega

set_option maxRecDepth 100000 in
def x_grows_331 (f : Int32) (mi : Nat → Int32) (ma : Nat → Nat → Int32) (j4 : Int64) : XT := bd (ma 66 f.toNatClampNeg) (fun v1 => bd (ma 47 f.toNatClampNeg) (fun v2 => bd ((555008 : Int32) / v2) (fun v3 => bd (v1 + v3) (fun v4 => bd (va_up ma 66 (upd (ma 66) f.toNatClampNeg v4)) (fun a5 => bd (a5 47 f.toNatClampNeg) (fun v6 => bd (v6.toInt64) (fun w7 => bd (j4 - w7) (fun w8 => bd (w8 * (1024 : Int64)) (fun w9 => bd (a5 47 f.toNatClampNeg) (fun v10 => bd (v10.toInt64) (fun w11 => bd (w9 / w11) (fun w12 => bd (w12.toInt32) (fun v13 => bd (a5 47 f.toNatClampNeg) (fun v14 => (if v13 ≤ (1 : Int32) then bd (v14 + (1 : Int32)) (fun v15 => bd (a5 66 f.toNatClampNeg) (fun v16 => (if v16 ≤ v15 then bc (x_opens f v15 mi a5) (fun m17 a18 _ => (m17, a18, 0)) else bd (a5 66 f.toNatClampNeg) (fun v20 => bc (x_opens f v20 mi a5) (fun m21 a22 _ => (m21, a22, 0)))))) else bd (v14 + v13) (fun v24 => bd (a5 66 f.toNatClampNeg) (fun v25 => (if v25 ≤ v24 then bc (x_opens f v24 mi a5) (fun m26 a27 _ => (m26, a27, 0)) else bd (a5 66 f.toNatClampNeg) (fun v29 => bc (x_opens f v29 mi a5) (fun m30 a31 _ => (m30, a31, 0)))))))))))))))))))))
set_option maxRecDepth 100000 in
def x_grows_255 (f : Int32) (mi : Nat → Int32) (ma : Nat → Nat → Int32) (j2 : Int64) : XT := bd (ma 65 f.toNatClampNeg) (fun v33 => bd (v33.toInt64) (fun w34 => bd (j2 * j2) (fun w35 => bd (w35 * j2) (fun w36 => bd (w36 * (4096 : Int64)) (fun w37 => bd (w37 / (10000000000 : Int64)) (fun w38 => bd (w34 + w38) (fun w39 => bd (ma 47 f.toNatClampNeg) (fun v40 => bd (v40 * (3 : Int32)) (fun v41 => bd (v41 / (2 : Int32)) (fun v42 => bd (v42.toInt64) (fun w43 => bd (ma 47 f.toNatClampNeg) (fun v44 => bd (v44.toInt64) (fun w45 => bd (lg_cmp w39 w45) (fun v46 => (if (0 : Int32) ≤ v46 then bd (lg_cmp w39 w43) (fun v47 => (if v47 ≤ (0 : Int32) then x_grows_331 f mi ma w39 else x_grows_331 f mi ma w43)) else bd (ma 47 f.toNatClampNeg) (fun v48 => bd (v48.toInt64) (fun w49 => x_grows_331 f mi ma w49)))))))))))))))))
set_option maxRecDepth 100000 in
def x_grows_192 (f : Int32) (mi : Nat → Int32) (ma : Nat → Nat → Int32) : XT := bd (mi 4) (fun v50 => bd (v50.toInt64) (fun w51 => bd (ma 67 f.toNatClampNeg) (fun v52 => bd (v52.toInt64) (fun w53 => bd (w51 - w53) (fun w54 => bd (ma 50 f.toNatClampNeg) (fun v55 => bd (v55 / (8 : Int32)) (fun v56 => bd (v56.toInt64) (fun w57 => bd (w54 + w57) (fun w58 => bd (ma 64 f.toNatClampNeg) (fun v59 => bd (v59.toInt64) (fun w60 => bd (w58 - w60) (fun w61 => bd (lg_cmp w61 ((-100000) : Int64)) (fun v62 => (if (0 : Int32) ≤ v62 then bd (lg_cmp w61 (100000 : Int64)) (fun v63 => (if v63 ≤ (0 : Int32) then x_grows_255 f mi ma w61 else x_grows_255 f mi ma (100000 : Int64))) else x_grows_255 f mi ma ((-100000) : Int64)))))))))))))))
set_option maxRecDepth 100000 in
def x_grows_108 (f : Int32) : Nat → (Nat → Int32) → (Nat → Nat → Int32) → Int64 → Int32 → XT
  | 0, mi, ma, _, _ => (mi, ma, 0)
  | fu + 1, mi, ma, j2, i4 => bd (i4.toInt64) (fun w64 => bd (w64 + (1 : Int64)) (fun w65 => bd (i4.toInt64) (fun w66 => bd (w66 + (1 : Int64)) (fun w67 => bd (w65 * w67) (fun w68 => bd (i4.toInt64) (fun w69 => bd (w69 + (1 : Int64)) (fun w70 => bd (w68 * w70) (fun w71 => bd (lg_cmp w71 j2) (fun v72 => (if (0 : Int32) < v72 then bd (va_up ma 64 (upd (ma 64) f.toNatClampNeg i4)) (fun a73 => bd (a73 63 f.toNatClampNeg) (fun v74 => bd (a73 47 f.toNatClampNeg) (fun v75 => (if v74 ≤ v75 then bd (a73 47 f.toNatClampNeg) (fun v76 => bd (va_up a73 65 (upd (a73 65) f.toNatClampNeg v76)) (fun a77 => bd (a77 47 f.toNatClampNeg) (fun v78 => bd (va_up a77 66 (upd (a77 66) f.toNatClampNeg v78)) (fun a79 => x_grows_192 f mi a79)))) else bd (a73 63 f.toNatClampNeg) (fun v80 => bd (va_up a73 65 (upd (a73 65) f.toNatClampNeg v80)) (fun a81 => bd (a81 47 f.toNatClampNeg) (fun v82 => bd (va_up a81 66 (upd (a81 66) f.toNatClampNeg v82)) (fun a83 => x_grows_192 f mi a83)))))))) else bd (i4 + 1) (fun v84 => x_grows_108 f fu mi ma j2 v84)))))))))))
set_option maxRecDepth 100000 in
def x_grows (f : Int32) (mi : Nat → Int32) (ma : Nat → Nat → Int32) : XT := bd (ma 42 f.toNatClampNeg) (fun v85 => (if v85 = (2 : Int32) then bd (ma 67 f.toNatClampNeg) (fun v86 => (if v86 = ((-1) : Int32) then bd (mi 4) (fun v87 => bd (va_up ma 67 (upd (ma 67) f.toNatClampNeg v87)) (fun a88 => bd (a88 47 f.toNatClampNeg) (fun v89 => bd (a88 63 f.toNatClampNeg) (fun v90 => (if v90 ≤ v89 then x_grows_108 f 8701 mi a88 (0 : Int64) (0 : Int32) else bd (a88 63 f.toNatClampNeg) (fun v91 => bd (a88 47 f.toNatClampNeg) (fun v92 => bd (v91 - v92) (fun v93 => bd (v93.toInt64) (fun w94 => bd (w94 * (2500000000 : Int64)) (fun w95 => bd (w95 / (1024 : Int64)) (fun w96 => x_grows_108 f 8701 mi a88 w96 (0 : Int32)))))))))))) else x_grows_192 f mi ma)) else bd (ma 47 f.toNatClampNeg) (fun v97 => bd ((1048576 : Int32) / v97) (fun v98 => bd (ma 47 f.toNatClampNeg) (fun v99 => (if v98 ≤ (1 : Int32) then bd (v99 + (1 : Int32)) (fun v100 => bc (x_opens f v100 mi ma) (fun m101 a102 _ => (m101, a102, 0))) else bd (v99 + v98) (fun v104 => bc (x_opens f v104 mi ma) (fun m105 a106 _ => (m105, a106, 0)))))))))
set_option maxHeartbeats 4000000 in
set_option maxRecDepth 100000 in
theorem m_grows (l : Launch) (D : va_G) (cI cJ cZ cO : ClassId) (sz : Nat) (h0 : Nat) (mq : Nat → Nat) (mi : Nat → Int32) (ma : Nat → Nat → Int32) (ph : Nat) (cl : Int) (f : Int32) (hI : MB mi ma) (hf0 : 0 ≤ f.toInt) (hf4 : f.toInt < 4) (hff : f.toInt < (mi 32).toInt) : Met l yX11_grows (wa yX11_grows cX11_grows 10 none) ({ frames := 1, cells := 0, slots := 0, locals := 22 }) (va_Pc [.ref h0, .int f] (pw_s D cI cJ cZ cO sz (mw cI cZ h0 mq mi ma))) (va_Qv (fun (_ : Unit) => True) (fun (_ : Unit) (t : State) => ∃ (mi2 : Nat → Int32) (ma2 : Nat → Nat → Int32), ((MB mi2 ma2 ∧ (∀ k, k ∉ ([] : List Nat) → mi2 k = mi k) ∧ (∀ k, k ∉ ([67, 64, 65, 66, 47, 68] : List Nat) → ma2 k = ma k)) ∧ mi2 = (x_grows f mi ma).1 ∧ ma2 = (x_grows f mi ma).2.1) ∧ pw_t D cI cJ cZ cO (va_A (mw cI cZ h0 mq mi ma) sz) (mw cI cZ h0 mq mi2 ma2) t) (va_A (mw cI cZ h0 mq mi ma) sz)) 0 0 (va_A (mw cI cZ h0 mq mi ma) sz) := by
  refine Met.ofW (cc := cX11_grows) (maxL := 10) (ret := none) (by decide) rfl ?_
  intro p e s m args below meth c s₁ B hml hv
  obtain ⟨rfl, hsz, hP, hK, hD0, hN⟩ := hv
  have hx := B.exec
  have hb := B.bytes
  have hr := B.returns
  have hts := atoms_spec (ws := (wa yX11_grows cX11_grows 10 none)) B.pre
  have ha : ∀ w ∈ wsL_law, w.before _ s = true := fun w h => hts w (List.mem_cons_of_mem _ h)
  have hown : s.vm.findClass RX11 = some m.cls := findClass_of_methodNamed B.named
  have hlocks := B.notSynchronized
  subst hsz
  have hD := hD0.self (sz := s.heap.size)
  generalize hAe : va_A (mw cI cZ h0 mq mi ma) s.heap.size = A at hD ⊢
  have hA : ∀ q : Nat, s.heap.size ≤ q → A q := fun q h => by rw [← hAe]; exact Or.inr h
  have hS : va_S A s.heap s.heap [] := va_S.rf
  have hP : va_P D vwCl (mw cI cZ h0 mq mi ma) s.heap := hP
  have hl := lv_entry ([.ref h0, .int f]) (n := 10) (Nat.le_of_ble_eq_true rfl)
  rw [lg_entry_eq]
  generalize (lg_sl ([.ref h0, .int f]) ++ List.replicate (10 - (lg_sl ([.ref h0, .int f])).length) Slot.unset).toArray = ls at hl ⊢
  have hl : lv_has ls 10 [(0, .ref h0), (1, .int f)] := hl
  have kc_m1 := tk_m1
  have kc_0 := tk_0
  have kc_1 := tk_1
  have kc_2 := tk_2
  have kc_3 := tk_3
  have kc_8 := tk_8
  have kc_555008 := tk_555008
  have kc_1048576 := tk_1048576
  obtain ⟨mi0, hmi0⟩ : ∃ y, y = mi := ⟨_, rfl⟩
  obtain ⟨ma0, hma0⟩ : ∃ y, y = ma := ⟨_, rfl⟩
  have hFI : ∀ k, k ∉ ([] : List Nat) → mi k = mi0 k := fun k _ => by rw [hmi0]
  have hFA : ∀ k, k ∉ ([67, 64, 65, 66, 47, 68] : List Nat) → ma k = ma0 k := fun k _ => by rw [hma0]
  obtain ⟨QP, hQP⟩ : ∃ y : State → Prop, y = (MQ below (va_Qv (fun (_ : Unit) => True) (fun (_ : Unit) (t : State) => ∃ (mi2 : Nat → Int32) (ma2 : Nat → Nat → Int32), ((MB mi2 ma2 ∧ (∀ k, k ∉ ([] : List Nat) → mi2 k = mi k) ∧ (∀ k, k ∉ ([67, 64, 65, 66, 47, 68] : List Nat) → ma2 k = ma k)) ∧ mi2 = (x_grows f mi ma).1 ∧ ma2 = (x_grows f mi ma).2.1) ∧ pw_t D cI cJ cZ cO A (mw cI cZ h0 mq mi2 ma2) t) A) #[(.ref h0 : Value), (.int f : Value)] s 0 0 A) := ⟨_, rfl⟩
  obtain ⟨RES, hRES⟩ : ∃ y, y = (x_grows f mi ma) := ⟨_, rfl⟩
  have hfN : f.toNatClampNeg < 4 := in_lt (vpi_of (n := 4) hf0 (by omega))
  have hle := MB_le2n hI f.toNatClampNeg hfN
  have hlh := MB_le2h hI f.toNatClampNeg hfN
  have J_331 : ∀ (mi : Nat → Int32) (ma : Nat → Nat → Int32) (j4 : Int64) (H : Heap) (locs : List Loc), va_P D vwCl (mw cI cZ h0 mq mi ma) H → va_D A (mw cI cZ h0 mq mi ma) → va_S A s.heap H locs → MB mi ma → (∀ k, k ∉ ([] : List Nat) → mi k = mi0 k) → (∀ k, k ∉ ([67, 64, 65, 66, 47, 68] : List Nat) → ma k = ma0 k) → RES = x_grows_331 f mi ma j4 → ((ma 47 f.toNatClampNeg).toInt ≤ j4.toInt ∧ j4.toInt ≤ (ma 47 f.toNatClampNeg).toInt + 131072) → ∀ (ls : Array Slot), lv_has ls 10 [(0, .ref h0), (1, .int f), (4, .long j4)] → W p l e ({ frames := 1, cells := 0, slots := 0, locals := 22 }) s m #[(.ref h0 : Value), (.int f : Value)] below meth c H locs 0 0 QP (F0 m 331 ls []) := by
    intro mi ma j4 H locs hP hD hS hI hFI hFA hE hv ls hl
    have hfN : f.toNatClampNeg < 4 := in_lt (vpi_of (n := 4) hf0 (by omega))
    have hle := MB_le2n hI f.toNatClampNeg hfN
    have hlh := MB_le2h hI f.toNatClampNeg hfN
    rw [x_grows_331] at hE
    refine lv_aload_n hx hb dX11_grows_331 rfl (lv_at hl 0 rfl) ?_
    refine va_get (D := D) (ci := 11) (v := .ref (mq 66)) (C := RX11) (T := TX11) (N := 74) hx hb ha inlX11 hown hK hP 0 mw_at0 rfl 66 (by decide) (ha _ kf_X11_166) (fun _ h9 => h9) rfl dX11_grows_332 ?_
    refine lv_iload_n hx hb dX11_grows_335 rfl (lv_at hl 1 rfl) ?_
    refine lv_dup2_11 hx hb dX11_grows_336 rfl rfl ?_
    have hin_1 : vp_in f 4 := vpi_of (by omega) (by omega)
    refine va_iald hx hb hK hP 48 0 mw_at66 rfl hin_1 dX11_grows_337 ?_
    refine lv_topi (fun x_2 ex_2 => ?_)
    have hE := bd_at ex_2 hE
    have u_x_2 := congrArg Int32.toInt ex_2
    refine lv_ldcw (v := 555008) hx hb hown (ha _ kk_X11_319) dX11_grows_338 ?_
    refine lv_aload_n hx hb dX11_grows_341 rfl (lv_at hl 0 rfl) ?_
    refine va_get (D := D) (ci := 11) (v := .ref (mq 47)) (C := RX11) (T := TX11) (N := 74) hx hb ha inlX11 hown hK hP 0 mw_at0 rfl 47 (by decide) (ha _ kf_X11_109) (fun _ h9 => h9) rfl dX11_grows_342 ?_
    refine lv_iload_n hx hb dX11_grows_345 rfl (lv_at hl 1 rfl) ?_
    have hin_3 : vp_in f 4 := vpi_of (by omega) (by omega)
    refine va_iald hx hb hK hP 29 0 mw_at47 rfl hin_3 dX11_grows_346 ?_
    refine lv_topi (fun x_4 ex_4 => ?_)
    have hE := bd_at ex_4 hE
    have u_x_4 := congrArg Int32.toInt ex_4
    have r_x_4 := rg_ld (MB_cwnd hI) hin_3 ex_4
    have g1_x_4 := ge1_ld (MB_ge1c hI) hf0 (by rw [hFI 32 (by decide), hmi0]; omega) ex_4
    have nz_x_4 : ¬ x_4 = 0 := nz_of g1_x_4
    refine lv_idiv hx hb dX11_grows_347 (nz_of (by omega)) ?_
    refine lv_topi (fun x_5 ex_5 => ?_)
    have hE := bd_at ex_5 hE
    have t_x_5 := ti_divv ex_5 (by omega) (by omega)
    refine lv_iadd hx hb dX11_grows_348 ?_
    refine lv_topi (fun x_6 ex_6 => ?_)
    have hE := bd_at ex_6 hE
    have hin_7 : vp_in f 4 := vpi_of (by omega) (by omega)
    refine va_iast hx hb hK hP hD hS 48 0 mw_at66 rfl hin_7 dX11_grows_349 (fun H locs hP hD hS => ?_)
    have hP : va_P D vwCl (mw cI cZ h0 mq mi (va_up ma 66 (upd (ma 66) f.toNatClampNeg x_6))) H := mwP_66 hP
    have hD : va_D A (mw cI cZ h0 mq mi (va_up ma 66 (upd (ma 66) f.toNatClampNeg x_6))) := mwD_66 hD
    generalize hma_8 : va_up ma 66 (upd (ma 66) f.toNatClampNeg x_6) = ma_8 at hP hD
    have hI : MB mi ma_8 := by rw [← hma_8]; exact MBa_est hI
    have hFA : ∀ k, k ∉ ([67, 64, 65, 66, 47, 68] : List Nat) → ma_8 k = ma0 k := fun k hk => by rw [← hma_8]; exact (va_up_ne _ _ (fun e => hk (by rw [e]; decide))).trans (hFA k hk)
    have hE := bs_at hma_8 hE
    refine lv_lload hx hb dX11_grows_350 (lv_at hl 2 rfl) ?_
    refine lv_aload_n hx hb dX11_grows_352 rfl (lv_at hl 0 rfl) ?_
    refine va_get (D := D) (ci := 11) (v := .ref (mq 47)) (C := RX11) (T := TX11) (N := 74) hx hb ha inlX11 hown hK hP 0 mw_at0 rfl 47 (by decide) (ha _ kf_X11_109) (fun _ h9 => h9) rfl dX11_grows_353 ?_
    refine lv_iload_n hx hb dX11_grows_356 rfl (lv_at hl 1 rfl) ?_
    have hin_9 : vp_in f 4 := vpi_of (by omega) (by omega)
    refine va_iald hx hb hK hP 29 0 mw_at47 rfl hin_9 dX11_grows_357 ?_
    refine lv_topi (fun x_10 ex_10 => ?_)
    have hE := bd_at ex_10 hE
    have u_x_10 := congrArg Int32.toInt ex_10
    have q_x_10 : x_10.toInt = x_4.toInt := congrArg Int32.toInt (ex_10.trans (((congrFun (congrFun hma_8 47) _).symm).trans (ex_4.symm)))
    have r_x_10 := rg_ld (MB_cwnd hI) hin_9 ex_10
    have g1_x_10 := ge1_ld (MB_ge1c hI) hf0 (by rw [hFI 32 (by decide), hmi0]; omega) ex_10
    have nz_x_10 : ¬ x_10 = 0 := nz_of g1_x_10
    refine lv_i2l hx hb dX11_grows_358 rfl ?_
    refine lv_topl (fun y_11 ey_11 => ?_)
    have hE := bd_at ey_11 hE
    have nz_y_11 : ¬ y_11 = 0 := sw_nzl nz_x_10 ey_11
    refine lv_lsub hx hb dX11_grows_359 ?_
    refine lv_topl (fun y_12 ey_12 => ?_)
    have hE := bd_at ey_12 hE
    refine lv_ldc2 (v := 1024) hx hb hown (ha _ kj_X11_309) dX11_grows_360 ?_
    refine lv_lmul hx hb dX11_grows_363 ?_
    refine lv_topl (fun y_13 ey_13 => ?_)
    have hE := bd_at ey_13 hE
    refine lv_aload_n hx hb dX11_grows_364 rfl (lv_at hl 0 rfl) ?_
    refine va_get (D := D) (ci := 11) (v := .ref (mq 47)) (C := RX11) (T := TX11) (N := 74) hx hb ha inlX11 hown hK hP 0 mw_at0 rfl 47 (by decide) (ha _ kf_X11_109) (fun _ h9 => h9) rfl dX11_grows_365 ?_
    refine lv_iload_n hx hb dX11_grows_368 rfl (lv_at hl 1 rfl) ?_
    have hin_14 : vp_in f 4 := vpi_of (by omega) (by omega)
    refine va_iald hx hb hK hP 29 0 mw_at47 rfl hin_14 dX11_grows_369 ?_
    refine lv_topi (fun x_15 ex_15 => ?_)
    have hE := bd_at ex_15 hE
    have u_x_15 := congrArg Int32.toInt ex_15
    have r_x_15 := rg_ld (MB_cwnd hI) hin_14 ex_15
    have g1_x_15 := ge1_ld (MB_ge1c hI) hf0 (by rw [hFI 32 (by decide), hmi0]; omega) ex_15
    have nz_x_15 : ¬ x_15 = 0 := nz_of g1_x_15
    refine lv_i2l hx hb dX11_grows_370 rfl ?_
    refine lv_topl (fun y_16 ey_16 => ?_)
    have hE := bd_at ey_16 hE
    have nz_y_16 : ¬ y_16 = 0 := sw_nzl nz_x_15 ey_16
    refine lv_ldiv hx hb dX11_grows_371 nz_y_16 ?_
    refine lv_topl (fun y_17 ey_17 => ?_)
    have hE := bd_at ey_17 hE
    refine lv_l2i hx hb dX11_grows_372 rfl ?_
    refine lv_topi (fun x_18 ex_18 => ?_)
    have hE := bd_at ex_18 hE
    have lk_47 : (ma_8 47 f.toNatClampNeg).toInt = (ma 47 f.toNatClampNeg).toInt := congrArg Int32.toInt (congrFun ((congrFun hma_8 47).symm) f.toNatClampNeg)
    have hmb := more_bd ey_11 ey_16 (by omega) (by omega) (by omega) (by omega) (by omega) ey_12 ey_13 ey_17 ex_18
    refine lv_istore (lv' := [(8, .int x_18), (0, .ref h0), (1, .int f), (4, .long j4)]) hx hb dX11_grows_373 hl (by decide) rfl (fun ls hl => ?_)
    refine lv_aload_n hx hb dX11_grows_375 rfl (lv_at hl 1 rfl) ?_
    refine va_get (D := D) (ci := 11) (v := .ref (mq 47)) (C := RX11) (T := TX11) (N := 74) hx hb ha inlX11 hown hK hP 0 mw_at0 rfl 47 (by decide) (ha _ kf_X11_109) (fun _ h9 => h9) rfl dX11_grows_376 ?_
    refine lv_iload_n hx hb dX11_grows_379 rfl (lv_at hl 2 rfl) ?_
    have hin_19 : vp_in f 4 := vpi_of (by omega) (by omega)
    refine va_iald hx hb hK hP 29 0 mw_at47 rfl hin_19 dX11_grows_380 ?_
    refine lv_topi (fun x_20 ex_20 => ?_)
    have hE := bd_at ex_20 hE
    have u_x_20 := congrArg Int32.toInt ex_20
    have r_x_20 := rg_ld (MB_cwnd hI) hin_19 ex_20
    have g1_x_20 := ge1_ld (MB_ge1c hI) hf0 (by rw [hFI 32 (by decide), hmi0]; omega) ex_20
    have nz_x_20 : ¬ x_20 = 0 := nz_of g1_x_20
    refine lv_iload hx hb dX11_grows_381 (lv_at hl 0 rfl) ?_
    refine lv_iconst (v := 1) hx hb dX11_grows_383 (by decide) ?_
    refine lv_icmp_le (tgt := 392) hx hb dX11_grows_384 (by decide) (fun c_21 => ?_) (fun c_21 => ?_)
    · have t_c_21 := Int32.le_iff_toInt_le.mp c_21
      have hE := hE.trans (if_pos c_21)
      refine lv_iconst (v := 1) hx hb dX11_grows_392 (by decide) ?_
      refine lv_iadd hx hb dX11_grows_393 ?_
      refine lv_topi (fun x_22 ex_22 => ?_)
      have hE := bd_at ex_22 hE
      try have t_x_22 := ti_add ex_22 (by omega) (by omega)
      refine lv_istore (lv' := [(9, .int x_22), (8, .int x_18), (0, .ref h0), (1, .int f), (4, .long j4)]) hx hb dX11_grows_394 hl (by decide) rfl (fun ls hl => ?_)
      refine lv_aload_n hx hb dX11_grows_396 rfl (lv_at hl 2 rfl) ?_
      refine lv_iload_n hx hb dX11_grows_397 rfl (lv_at hl 3 rfl) ?_
      refine lv_aload_n hx hb dX11_grows_398 rfl (lv_at hl 2 rfl) ?_
      refine va_get (D := D) (ci := 11) (v := .ref (mq 66)) (C := RX11) (T := TX11) (N := 74) hx hb ha inlX11 hown hK hP 0 mw_at0 rfl 66 (by decide) (ha _ kf_X11_166) (fun _ h9 => h9) rfl dX11_grows_399 ?_
      refine lv_iload_n hx hb dX11_grows_402 rfl (lv_at hl 3 rfl) ?_
      have hin_23 : vp_in f 4 := vpi_of (by omega) (by omega)
      refine va_iald hx hb hK hP 48 0 mw_at66 rfl hin_23 dX11_grows_403 ?_
      refine lv_topi (fun x_24 ex_24 => ?_)
      have hE := bd_at ex_24 hE
      have u_x_24 := congrArg Int32.toInt ex_24
      refine lv_iload hx hb dX11_grows_404 (lv_at hl 0 rfl) ?_
      refine lv_icmp_le (tgt := 418) hx hb dX11_grows_406 (by decide) (fun c_25 => ?_) (fun c_25 => ?_)
      · have t_c_25 := Int32.le_iff_toInt_le.mp c_25
        have hE := hE.trans (if_pos c_25)
        refine lv_iload hx hb dX11_grows_418 (lv_at hl 0 rfl) ?_
        have hFc := va_freeW hD hS hA
        refine va_callv (va_runV (As := [.int f, .int x_22]) (rest := []) ⟨hx, hb, hml, hown, ha⟩ (m_opens l D cI cJ cZ cO _ h0 mq mi ma_8 ph cl f x_22 hI hf0 hf4 (by omega)) (cwV 2 ha (gaV kl_X11_295 km_X11_opens ks_X11_opens kz_X11 kd_X11_opens) rfl rfl rfl (by decide +kernel) ⟨Nat.le_of_ble_eq_true rfl, Nat.le_of_ble_eq_true rfl⟩) ⟨pw_blind, va_recv hK hP (ci := 11) (q0 := 0) rfl rfl, fun U hU hW => ⟨rfl, pw_start hU hW hP hK hD hN⟩⟩ rfl rfl hl.1 rfl (lv_room (Nat.le_of_ble_eq_true rfl)) dX11_grows_420 ⟨Nat.le_of_ble_eq_true rfl, Nat.le_of_ble_eq_true rfl⟩) hS (fun q _ h => hFc q h) hFc (fun u t H1 locs ht hvm hw hB hz1 hk1 hS => ?_)
        obtain ⟨mi_27, ma_28, ⟨hf_29, hX1, hX2⟩, hP, hK1, hD1⟩ := hB
        have hE := bc_atv hX1 hX2 hE
        rw [ht] at hP
        have hD := hD1.weaken (fun k q _ h => hFc q.1 h)
        clear hD1
        generalize H1 = H at hP hS ⊢
        refine W.widen (k := 0) (n := 0) (Nat.le_refl _) (Nat.le_refl _) ?_
        have hI := hf_29.1
        have hFI : ∀ k, k ∉ ([] : List Nat) → mi_27 k = mi0 k := fun k hk => (hf_29.2.1 k (fun h => hk (by revert h; exact sub_of (by decide) k))).trans (hFI k hk)
        have hFA : ∀ k, k ∉ ([67, 64, 65, 66, 47, 68] : List Nat) → ma_28 k = ma0 k := fun k hk => (hf_29.2.2 k (fun h => hk (by revert h; exact sub_of (by decide) k))).trans (hFA k hk)
        rw [hQP]
        exact W.vret hx hb hr (fun t ht hW => ⟨⟨(), rfl, trivial, ⟨mi_27, ma_28, ⟨⟨hI, fun k hk => (hFI k hk).trans (by rw [hmi0]), fun k hk => (hFA k hk).trans (by rw [hma0])⟩, by rw [← hRES, hE], by rw [← hRES, hE]⟩, by rw [ht]; exact hP, va_K.moved hW.alike hK, hD⟩⟩, hS.F ht⟩) hS.2.2 dX11_grows_423
      · have t_c_25 := Int32.lt_iff_toInt_lt.mp (Int32.not_le.mp c_25)
        have hE := hE.trans (if_neg c_25)
        refine lv_aload_n hx hb dX11_grows_409 rfl (lv_at hl 2 rfl) ?_
        refine va_get (D := D) (ci := 11) (v := .ref (mq 66)) (C := RX11) (T := TX11) (N := 74) hx hb ha inlX11 hown hK hP 0 mw_at0 rfl 66 (by decide) (ha _ kf_X11_166) (fun _ h9 => h9) rfl dX11_grows_410 ?_
        refine lv_iload_n hx hb dX11_grows_413 rfl (lv_at hl 3 rfl) ?_
        have hin_30 : vp_in f 4 := vpi_of (by omega) (by omega)
        refine va_iald hx hb hK hP 48 0 mw_at66 rfl hin_30 dX11_grows_414 ?_
        refine lv_topi (fun x_31 ex_31 => ?_)
        have hE := bd_at ex_31 hE
        have u_x_31 := congrArg Int32.toInt ex_31
        refine lv_goto (tgt := 420) hx hb dX11_grows_415 (by decide) ?_
        have hFc := va_freeW hD hS hA
        refine va_callv (va_runV (As := [.int f, .int x_31]) (rest := []) ⟨hx, hb, hml, hown, ha⟩ (m_opens l D cI cJ cZ cO _ h0 mq mi ma_8 ph cl f x_31 hI hf0 hf4 (by omega)) (cwV 2 ha (gaV kl_X11_295 km_X11_opens ks_X11_opens kz_X11 kd_X11_opens) rfl rfl rfl (by decide +kernel) ⟨Nat.le_of_ble_eq_true rfl, Nat.le_of_ble_eq_true rfl⟩) ⟨pw_blind, va_recv hK hP (ci := 11) (q0 := 0) rfl rfl, fun U hU hW => ⟨rfl, pw_start hU hW hP hK hD hN⟩⟩ rfl rfl hl.1 rfl (lv_room (Nat.le_of_ble_eq_true rfl)) dX11_grows_420 ⟨Nat.le_of_ble_eq_true rfl, Nat.le_of_ble_eq_true rfl⟩) hS (fun q _ h => hFc q h) hFc (fun u t H1 locs ht hvm hw hB hz1 hk1 hS => ?_)
        obtain ⟨mi_33, ma_34, ⟨hf_35, hX1, hX2⟩, hP, hK1, hD1⟩ := hB
        have hE := bc_atv hX1 hX2 hE
        rw [ht] at hP
        have hD := hD1.weaken (fun k q _ h => hFc q.1 h)
        clear hD1
        generalize H1 = H at hP hS ⊢
        refine W.widen (k := 0) (n := 0) (Nat.le_refl _) (Nat.le_refl _) ?_
        have hI := hf_35.1
        have hFI : ∀ k, k ∉ ([] : List Nat) → mi_33 k = mi0 k := fun k hk => (hf_35.2.1 k (fun h => hk (by revert h; exact sub_of (by decide) k))).trans (hFI k hk)
        have hFA : ∀ k, k ∉ ([67, 64, 65, 66, 47, 68] : List Nat) → ma_34 k = ma0 k := fun k hk => (hf_35.2.2 k (fun h => hk (by revert h; exact sub_of (by decide) k))).trans (hFA k hk)
        rw [hQP]
        exact W.vret hx hb hr (fun t ht hW => ⟨⟨(), rfl, trivial, ⟨mi_33, ma_34, ⟨⟨hI, fun k hk => (hFI k hk).trans (by rw [hmi0]), fun k hk => (hFA k hk).trans (by rw [hma0])⟩, by rw [← hRES, hE], by rw [← hRES, hE]⟩, by rw [ht]; exact hP, va_K.moved hW.alike hK, hD⟩⟩, hS.F ht⟩) hS.2.2 dX11_grows_423
    · have t_c_21 := Int32.lt_iff_toInt_lt.mp (Int32.not_le.mp c_21)
      have hE := hE.trans (if_neg c_21)
      refine lv_iload hx hb dX11_grows_387 (lv_at hl 0 rfl) ?_
      refine lv_goto (tgt := 393) hx hb dX11_grows_389 (by decide) ?_
      refine lv_iadd hx hb dX11_grows_393 ?_
      refine lv_topi (fun x_36 ex_36 => ?_)
      have hE := bd_at ex_36 hE
      try have t_x_36 := ti_add ex_36 (by omega) (by omega)
      refine lv_istore (lv' := [(9, .int x_36), (8, .int x_18), (0, .ref h0), (1, .int f), (4, .long j4)]) hx hb dX11_grows_394 hl (by decide) rfl (fun ls hl => ?_)
      refine lv_aload_n hx hb dX11_grows_396 rfl (lv_at hl 2 rfl) ?_
      refine lv_iload_n hx hb dX11_grows_397 rfl (lv_at hl 3 rfl) ?_
      refine lv_aload_n hx hb dX11_grows_398 rfl (lv_at hl 2 rfl) ?_
      refine va_get (D := D) (ci := 11) (v := .ref (mq 66)) (C := RX11) (T := TX11) (N := 74) hx hb ha inlX11 hown hK hP 0 mw_at0 rfl 66 (by decide) (ha _ kf_X11_166) (fun _ h9 => h9) rfl dX11_grows_399 ?_
      refine lv_iload_n hx hb dX11_grows_402 rfl (lv_at hl 3 rfl) ?_
      have hin_37 : vp_in f 4 := vpi_of (by omega) (by omega)
      refine va_iald hx hb hK hP 48 0 mw_at66 rfl hin_37 dX11_grows_403 ?_
      refine lv_topi (fun x_38 ex_38 => ?_)
      have hE := bd_at ex_38 hE
      have u_x_38 := congrArg Int32.toInt ex_38
      refine lv_iload hx hb dX11_grows_404 (lv_at hl 0 rfl) ?_
      refine lv_icmp_le (tgt := 418) hx hb dX11_grows_406 (by decide) (fun c_39 => ?_) (fun c_39 => ?_)
      · have t_c_39 := Int32.le_iff_toInt_le.mp c_39
        have hE := hE.trans (if_pos c_39)
        refine lv_iload hx hb dX11_grows_418 (lv_at hl 0 rfl) ?_
        have hFc := va_freeW hD hS hA
        refine va_callv (va_runV (As := [.int f, .int x_36]) (rest := []) ⟨hx, hb, hml, hown, ha⟩ (m_opens l D cI cJ cZ cO _ h0 mq mi ma_8 ph cl f x_36 hI hf0 hf4 (by omega)) (cwV 2 ha (gaV kl_X11_295 km_X11_opens ks_X11_opens kz_X11 kd_X11_opens) rfl rfl rfl (by decide +kernel) ⟨Nat.le_of_ble_eq_true rfl, Nat.le_of_ble_eq_true rfl⟩) ⟨pw_blind, va_recv hK hP (ci := 11) (q0 := 0) rfl rfl, fun U hU hW => ⟨rfl, pw_start hU hW hP hK hD hN⟩⟩ rfl rfl hl.1 rfl (lv_room (Nat.le_of_ble_eq_true rfl)) dX11_grows_420 ⟨Nat.le_of_ble_eq_true rfl, Nat.le_of_ble_eq_true rfl⟩) hS (fun q _ h => hFc q h) hFc (fun u t H1 locs ht hvm hw hB hz1 hk1 hS => ?_)
        obtain ⟨mi_41, ma_42, ⟨hf_43, hX1, hX2⟩, hP, hK1, hD1⟩ := hB
        have hE := bc_atv hX1 hX2 hE
        rw [ht] at hP
        have hD := hD1.weaken (fun k q _ h => hFc q.1 h)
        clear hD1
        generalize H1 = H at hP hS ⊢
        refine W.widen (k := 0) (n := 0) (Nat.le_refl _) (Nat.le_refl _) ?_
        have hI := hf_43.1
        have hFI : ∀ k, k ∉ ([] : List Nat) → mi_41 k = mi0 k := fun k hk => (hf_43.2.1 k (fun h => hk (by revert h; exact sub_of (by decide) k))).trans (hFI k hk)
        have hFA : ∀ k, k ∉ ([67, 64, 65, 66, 47, 68] : List Nat) → ma_42 k = ma0 k := fun k hk => (hf_43.2.2 k (fun h => hk (by revert h; exact sub_of (by decide) k))).trans (hFA k hk)
        rw [hQP]
        exact W.vret hx hb hr (fun t ht hW => ⟨⟨(), rfl, trivial, ⟨mi_41, ma_42, ⟨⟨hI, fun k hk => (hFI k hk).trans (by rw [hmi0]), fun k hk => (hFA k hk).trans (by rw [hma0])⟩, by rw [← hRES, hE], by rw [← hRES, hE]⟩, by rw [ht]; exact hP, va_K.moved hW.alike hK, hD⟩⟩, hS.F ht⟩) hS.2.2 dX11_grows_423
      · have t_c_39 := Int32.lt_iff_toInt_lt.mp (Int32.not_le.mp c_39)
        have hE := hE.trans (if_neg c_39)
        refine lv_aload_n hx hb dX11_grows_409 rfl (lv_at hl 2 rfl) ?_
        refine va_get (D := D) (ci := 11) (v := .ref (mq 66)) (C := RX11) (T := TX11) (N := 74) hx hb ha inlX11 hown hK hP 0 mw_at0 rfl 66 (by decide) (ha _ kf_X11_166) (fun _ h9 => h9) rfl dX11_grows_410 ?_
        refine lv_iload_n hx hb dX11_grows_413 rfl (lv_at hl 3 rfl) ?_
        have hin_44 : vp_in f 4 := vpi_of (by omega) (by omega)
        refine va_iald hx hb hK hP 48 0 mw_at66 rfl hin_44 dX11_grows_414 ?_
        refine lv_topi (fun x_45 ex_45 => ?_)
        have hE := bd_at ex_45 hE
        have u_x_45 := congrArg Int32.toInt ex_45
        refine lv_goto (tgt := 420) hx hb dX11_grows_415 (by decide) ?_
        have hFc := va_freeW hD hS hA
        refine va_callv (va_runV (As := [.int f, .int x_45]) (rest := []) ⟨hx, hb, hml, hown, ha⟩ (m_opens l D cI cJ cZ cO _ h0 mq mi ma_8 ph cl f x_45 hI hf0 hf4 (by omega)) (cwV 2 ha (gaV kl_X11_295 km_X11_opens ks_X11_opens kz_X11 kd_X11_opens) rfl rfl rfl (by decide +kernel) ⟨Nat.le_of_ble_eq_true rfl, Nat.le_of_ble_eq_true rfl⟩) ⟨pw_blind, va_recv hK hP (ci := 11) (q0 := 0) rfl rfl, fun U hU hW => ⟨rfl, pw_start hU hW hP hK hD hN⟩⟩ rfl rfl hl.1 rfl (lv_room (Nat.le_of_ble_eq_true rfl)) dX11_grows_420 ⟨Nat.le_of_ble_eq_true rfl, Nat.le_of_ble_eq_true rfl⟩) hS (fun q _ h => hFc q h) hFc (fun u t H1 locs ht hvm hw hB hz1 hk1 hS => ?_)
        obtain ⟨mi_47, ma_48, ⟨hf_49, hX1, hX2⟩, hP, hK1, hD1⟩ := hB
        have hE := bc_atv hX1 hX2 hE
        rw [ht] at hP
        have hD := hD1.weaken (fun k q _ h => hFc q.1 h)
        clear hD1
        generalize H1 = H at hP hS ⊢
        refine W.widen (k := 0) (n := 0) (Nat.le_refl _) (Nat.le_refl _) ?_
        have hI := hf_49.1
        have hFI : ∀ k, k ∉ ([] : List Nat) → mi_47 k = mi0 k := fun k hk => (hf_49.2.1 k (fun h => hk (by revert h; exact sub_of (by decide) k))).trans (hFI k hk)
        have hFA : ∀ k, k ∉ ([67, 64, 65, 66, 47, 68] : List Nat) → ma_48 k = ma0 k := fun k hk => (hf_49.2.2 k (fun h => hk (by revert h; exact sub_of (by decide) k))).trans (hFA k hk)
        rw [hQP]
        exact W.vret hx hb hr (fun t ht hW => ⟨⟨(), rfl, trivial, ⟨mi_47, ma_48, ⟨⟨hI, fun k hk => (hFI k hk).trans (by rw [hmi0]), fun k hk => (hFA k hk).trans (by rw [hma0])⟩, by rw [← hRES, hE], by rw [← hRES, hE]⟩, by rw [ht]; exact hP, va_K.moved hW.alike hK, hD⟩⟩, hS.F ht⟩) hS.2.2 dX11_grows_423
  have J_255 : ∀ (mi : Nat → Int32) (ma : Nat → Nat → Int32) (j2 : Int64) (H : Heap) (locs : List Loc), va_P D vwCl (mw cI cZ h0 mq mi ma) H → va_D A (mw cI cZ h0 mq mi ma) → va_S A s.heap H locs → MB mi ma → (∀ k, k ∉ ([] : List Nat) → mi k = mi0 k) → (∀ k, k ∉ ([67, 64, 65, 66, 47, 68] : List Nat) → ma k = ma0 k) → RES = x_grows_255 f mi ma j2 → ∀ (ls : Array Slot), lv_has ls 10 [(0, .ref h0), (1, .int f), (2, .long j2)] → W p l e ({ frames := 1, cells := 0, slots := 0, locals := 22 }) s m #[(.ref h0 : Value), (.int f : Value)] below meth c H locs 0 0 QP (F0 m 255 ls []) := by
    intro mi ma j2 H locs hP hD hS hI hFI hFA hE ls hl
    have hfN : f.toNatClampNeg < 4 := in_lt (vpi_of (n := 4) hf0 (by omega))
    have hle := MB_le2n hI f.toNatClampNeg hfN
    have hlh := MB_le2h hI f.toNatClampNeg hfN
    rw [x_grows_255] at hE
    refine lv_aload_n hx hb dX11_grows_255 rfl (lv_at hl 0 rfl) ?_
    refine va_get (D := D) (ci := 11) (v := .ref (mq 65)) (C := RX11) (T := TX11) (N := 74) hx hb ha inlX11 hown hK hP 0 mw_at0 rfl 65 (by decide) (ha _ kf_X11_163) (fun _ h9 => h9) rfl dX11_grows_256 ?_
    refine lv_iload_n hx hb dX11_grows_259 rfl (lv_at hl 1 rfl) ?_
    have hin_50 : vp_in f 4 := vpi_of (by omega) (by omega)
    refine va_iald hx hb hK hP 47 0 mw_at65 rfl hin_50 dX11_grows_260 ?_
    refine lv_topi (fun x_51 ex_51 => ?_)
    have hE := bd_at ex_51 hE
    have u_x_51 := congrArg Int32.toInt ex_51
    refine lv_i2l hx hb dX11_grows_261 rfl ?_
    refine lv_topl (fun y_52 ey_52 => ?_)
    have hE := bd_at ey_52 hE
    refine lv_lload_n hx hb dX11_grows_262 rfl (lv_at hl 2 rfl) ?_
    refine lv_lload_n hx hb dX11_grows_263 rfl (lv_at hl 2 rfl) ?_
    refine lv_lmul hx hb dX11_grows_264 ?_
    refine lv_topl (fun y_53 ey_53 => ?_)
    have hE := bd_at ey_53 hE
    refine lv_lload_n hx hb dX11_grows_265 rfl (lv_at hl 2 rfl) ?_
    refine lv_lmul hx hb dX11_grows_266 ?_
    refine lv_topl (fun y_54 ey_54 => ?_)
    have hE := bd_at ey_54 hE
    refine lv_ldc2 (v := 4096) hx hb hown (ha _ kj_X11_315) dX11_grows_267 ?_
    refine lv_lmul hx hb dX11_grows_270 ?_
    refine lv_topl (fun y_55 ey_55 => ?_)
    have hE := bd_at ey_55 hE
    refine lv_ldc2 (v := 10000000000) hx hb hown (ha _ kj_X11_317) dX11_grows_271 ?_
    refine lv_ldiv hx hb dX11_grows_274 (by decide) ?_
    refine lv_topl (fun y_56 ey_56 => ?_)
    have hE := bd_at ey_56 hE
    refine lv_ladd hx hb dX11_grows_275 ?_
    refine lv_topl (fun y_57 ey_57 => ?_)
    have hE := bd_at ey_57 hE
    refine lv_lstore (lv' := [(4, .long y_57), (0, .ref h0), (1, .int f), (2, .long j2)]) hx hb dX11_grows_276 hl (by decide) rfl (fun ls hl => ?_)
    refine lv_aload_n hx hb dX11_grows_278 rfl (lv_at hl 1 rfl) ?_
    refine va_get (D := D) (ci := 11) (v := .ref (mq 47)) (C := RX11) (T := TX11) (N := 74) hx hb ha inlX11 hown hK hP 0 mw_at0 rfl 47 (by decide) (ha _ kf_X11_109) (fun _ h9 => h9) rfl dX11_grows_279 ?_
    refine lv_iload_n hx hb dX11_grows_282 rfl (lv_at hl 2 rfl) ?_
    have hin_58 : vp_in f 4 := vpi_of (by omega) (by omega)
    refine va_iald hx hb hK hP 29 0 mw_at47 rfl hin_58 dX11_grows_283 ?_
    refine lv_topi (fun x_59 ex_59 => ?_)
    have hE := bd_at ex_59 hE
    have u_x_59 := congrArg Int32.toInt ex_59
    have r_x_59 := rg_ld (MB_cwnd hI) hin_58 ex_59
    have g1_x_59 := ge1_ld (MB_ge1c hI) hf0 (by rw [hFI 32 (by decide), hmi0]; omega) ex_59
    have nz_x_59 : ¬ x_59 = 0 := nz_of g1_x_59
    refine lv_iconst (v := 3) hx hb dX11_grows_284 (by decide) ?_
    refine lv_imul hx hb dX11_grows_285 ?_
    refine lv_topi (fun x_60 ex_60 => ?_)
    have hE := bd_at ex_60 hE
    try have t_x_60 := ti_mulr (k := 3) ex_60 tk_3 (by omega) (by omega)
    refine lv_iconst (v := 2) hx hb dX11_grows_286 (by decide) ?_
    refine lv_idiv hx hb dX11_grows_287 (by decide) ?_
    refine lv_topi (fun x_61 ex_61 => ?_)
    have hE := bd_at ex_61 hE
    try have t_x_61 := ti_divc (k := 2) ex_61 tk_2 (by decide) (by omega)
    refine lv_i2l hx hb dX11_grows_288 rfl ?_
    refine lv_topl (fun y_62 ey_62 => ?_)
    have hE := bd_at ey_62 hE
    refine lv_lstore (lv' := [(6, .long y_62), (4, .long y_57), (0, .ref h0), (1, .int f), (2, .long j2)]) hx hb dX11_grows_289 hl (by decide) rfl (fun ls hl => ?_)
    refine lv_lload hx hb dX11_grows_291 (lv_at hl 1 rfl) ?_
    refine lv_aload_n hx hb dX11_grows_293 rfl (lv_at hl 2 rfl) ?_
    refine va_get (D := D) (ci := 11) (v := .ref (mq 47)) (C := RX11) (T := TX11) (N := 74) hx hb ha inlX11 hown hK hP 0 mw_at0 rfl 47 (by decide) (ha _ kf_X11_109) (fun _ h9 => h9) rfl dX11_grows_294 ?_
    refine lv_iload_n hx hb dX11_grows_297 rfl (lv_at hl 3 rfl) ?_
    have hin_63 : vp_in f 4 := vpi_of (by omega) (by omega)
    refine va_iald hx hb hK hP 29 0 mw_at47 rfl hin_63 dX11_grows_298 ?_
    refine lv_topi (fun x_64 ex_64 => ?_)
    have hE := bd_at ex_64 hE
    have u_x_64 := congrArg Int32.toInt ex_64
    have r_x_64 := rg_ld (MB_cwnd hI) hin_63 ex_64
    have g1_x_64 := ge1_ld (MB_ge1c hI) hf0 (by rw [hFI 32 (by decide), hmi0]; omega) ex_64
    have nz_x_64 : ¬ x_64 = 0 := nz_of g1_x_64
    refine lv_i2l hx hb dX11_grows_299 rfl ?_
    refine lv_topl (fun y_65 ey_65 => ?_)
    have hE := bd_at ey_65 hE
    have nz_y_65 : ¬ y_65 = 0 := sw_nzl nz_x_64 ey_65
    refine W.lcmp hx hb dX11_grows_300 ?_
    refine lv_topi (fun x_66 ex_66 => ?_)
    have hE := bd_at ex_66 hE
    refine lv_if_ge (tgt := 314) hx hb dX11_grows_301 (by decide) (fun c_67 => ?_) (fun c_67 => ?_)
    · have t_c_67 := Int32.le_iff_toInt_le.mp c_67
      have hE := hE.trans (if_pos c_67)
      refine lv_lload hx hb dX11_grows_314 (lv_at hl 1 rfl) ?_
      refine lv_lload hx hb dX11_grows_316 (lv_at hl 0 rfl) ?_
      refine W.lcmp hx hb dX11_grows_318 ?_
      refine lv_topi (fun x_68 ex_68 => ?_)
      have hE := bd_at ex_68 hE
      refine lv_if_le (tgt := 327) hx hb dX11_grows_319 (by decide) (fun c_69 => ?_) (fun c_69 => ?_)
      · have t_c_69 := Int32.le_iff_toInt_le.mp c_69
        have hE := hE.trans (if_pos c_69)
        refine lv_lload hx hb dX11_grows_327 (lv_at hl 1 rfl) ?_
        refine lv_lstore (lv' := [(4, .long y_57), (6, .long y_62), (0, .ref h0), (1, .int f), (2, .long j2)]) hx hb dX11_grows_329 hl (by decide) rfl (fun ls hl => ?_)
        exact J_331 mi ma y_57 _ _ hP hD hS hI hFI hFA hE ⟨by have a1 := lc_ge ex_66 c_67; rw [ey_65, Int32.toInt_toInt64] at a1; omega, by have a2 := lc_le ex_68 c_69; rw [ey_62, Int32.toInt_toInt64] at a2; omega⟩ _ (lv_sub hl [2, 3, 0] rfl)
      · have t_c_69 := Int32.lt_iff_toInt_lt.mp (Int32.not_le.mp c_69)
        have hE := hE.trans (if_neg c_69)
        refine lv_lload hx hb dX11_grows_322 (lv_at hl 0 rfl) ?_
        refine lv_goto (tgt := 329) hx hb dX11_grows_324 (by decide) ?_
        refine lv_lstore (lv' := [(4, .long y_62), (6, .long y_62), (0, .ref h0), (1, .int f), (2, .long j2)]) hx hb dX11_grows_329 hl (by decide) rfl (fun ls hl => ?_)
        exact J_331 mi ma y_62 _ _ hP hD hS hI hFI hFA hE ⟨by rw [ey_62, Int32.toInt_toInt64]; omega, by rw [ey_62, Int32.toInt_toInt64]; omega⟩ _ (lv_sub hl [2, 3, 0] rfl)
    · have t_c_67 := Int32.lt_iff_toInt_lt.mp (Int32.not_le.mp c_67)
      have hE := hE.trans (if_neg c_67)
      refine lv_aload_n hx hb dX11_grows_304 rfl (lv_at hl 2 rfl) ?_
      refine va_get (D := D) (ci := 11) (v := .ref (mq 47)) (C := RX11) (T := TX11) (N := 74) hx hb ha inlX11 hown hK hP 0 mw_at0 rfl 47 (by decide) (ha _ kf_X11_109) (fun _ h9 => h9) rfl dX11_grows_305 ?_
      refine lv_iload_n hx hb dX11_grows_308 rfl (lv_at hl 3 rfl) ?_
      have hin_70 : vp_in f 4 := vpi_of (by omega) (by omega)
      refine va_iald hx hb hK hP 29 0 mw_at47 rfl hin_70 dX11_grows_309 ?_
      refine lv_topi (fun x_71 ex_71 => ?_)
      have hE := bd_at ex_71 hE
      have u_x_71 := congrArg Int32.toInt ex_71
      have r_x_71 := rg_ld (MB_cwnd hI) hin_70 ex_71
      have g1_x_71 := ge1_ld (MB_ge1c hI) hf0 (by rw [hFI 32 (by decide), hmi0]; omega) ex_71
      have nz_x_71 : ¬ x_71 = 0 := nz_of g1_x_71
      refine lv_i2l hx hb dX11_grows_310 rfl ?_
      refine lv_topl (fun y_72 ey_72 => ?_)
      have hE := bd_at ey_72 hE
      have nz_y_72 : ¬ y_72 = 0 := sw_nzl nz_x_71 ey_72
      refine lv_goto (tgt := 329) hx hb dX11_grows_311 (by decide) ?_
      refine lv_lstore (lv' := [(4, .long y_72), (6, .long y_62), (0, .ref h0), (1, .int f), (2, .long j2)]) hx hb dX11_grows_329 hl (by decide) rfl (fun ls hl => ?_)
      exact J_331 mi ma y_72 _ _ hP hD hS hI hFI hFA hE ⟨by rw [ey_72, Int32.toInt_toInt64]; omega, by rw [ey_72, Int32.toInt_toInt64]; omega⟩ _ (lv_sub hl [2, 3, 0] rfl)
  have J_192 : ∀ (mi : Nat → Int32) (ma : Nat → Nat → Int32) (H : Heap) (locs : List Loc), va_P D vwCl (mw cI cZ h0 mq mi ma) H → va_D A (mw cI cZ h0 mq mi ma) → va_S A s.heap H locs → MB mi ma → (∀ k, k ∉ ([] : List Nat) → mi k = mi0 k) → (∀ k, k ∉ ([67, 64, 65, 66, 47, 68] : List Nat) → ma k = ma0 k) → RES = x_grows_192 f mi ma → ∀ (ls : Array Slot), lv_has ls 10 [(0, .ref h0), (1, .int f)] → W p l e ({ frames := 1, cells := 0, slots := 0, locals := 22 }) s m #[(.ref h0 : Value), (.int f : Value)] below meth c H locs 0 0 QP (F0 m 192 ls []) := by
    intro mi ma H locs hP hD hS hI hFI hFA hE ls hl
    have hfN : f.toNatClampNeg < 4 := in_lt (vpi_of (n := 4) hf0 (by omega))
    have hle := MB_le2n hI f.toNatClampNeg hfN
    have hlh := MB_le2h hI f.toNatClampNeg hfN
    rw [x_grows_192] at hE
    refine lv_aload_n hx hb dX11_grows_192 rfl (lv_at hl 0 rfl) ?_
    refine va_get (D := D) (ci := 11) (v := .int (mi 4)) (C := RX11) (T := TX11) (N := 74) hx hb ha inlX11 hown hK hP 0 mw_at0 rfl 4 (by decide) (ha _ kf_X11_207) (fun _ h9 => h9) rfl dX11_grows_193 ?_
    refine lv_topi (fun x_73 ex_73 => ?_)
    have hE := bd_at ex_73 hE
    have u_x_73 := congrArg Int32.toInt ex_73
    have r_x_73 := MB_tick hI
    rw [← ex_73] at r_x_73
    refine lv_i2l hx hb dX11_grows_196 rfl ?_
    refine lv_topl (fun y_74 ey_74 => ?_)
    have hE := bd_at ey_74 hE
    refine lv_aload_n hx hb dX11_grows_197 rfl (lv_at hl 0 rfl) ?_
    refine va_get (D := D) (ci := 11) (v := .ref (mq 67)) (C := RX11) (T := TX11) (N := 74) hx hb ha inlX11 hown hK hP 0 mw_at0 rfl 67 (by decide) (ha _ kf_X11_169) (fun _ h9 => h9) rfl dX11_grows_198 ?_
    refine lv_iload_n hx hb dX11_grows_201 rfl (lv_at hl 1 rfl) ?_
    have hin_75 : vp_in f 4 := vpi_of (by omega) (by omega)
    refine va_iald hx hb hK hP 49 0 mw_at67 rfl hin_75 dX11_grows_202 ?_
    refine lv_topi (fun x_76 ex_76 => ?_)
    have hE := bd_at ex_76 hE
    have u_x_76 := congrArg Int32.toInt ex_76
    refine lv_i2l hx hb dX11_grows_203 rfl ?_
    refine lv_topl (fun y_77 ey_77 => ?_)
    have hE := bd_at ey_77 hE
    refine lv_lsub hx hb dX11_grows_204 ?_
    refine lv_topl (fun y_78 ey_78 => ?_)
    have hE := bd_at ey_78 hE
    refine lv_aload_n hx hb dX11_grows_205 rfl (lv_at hl 0 rfl) ?_
    refine va_get (D := D) (ci := 11) (v := .ref (mq 50)) (C := RX11) (T := TX11) (N := 74) hx hb ha inlX11 hown hK hP 0 mw_at0 rfl 50 (by decide) (ha _ kf_X11_118) (fun _ h9 => h9) rfl dX11_grows_206 ?_
    refine lv_iload_n hx hb dX11_grows_209 rfl (lv_at hl 1 rfl) ?_
    have hin_79 : vp_in f 4 := vpi_of (by omega) (by omega)
    refine va_iald hx hb hK hP 32 0 mw_at50 rfl hin_79 dX11_grows_210 ?_
    refine lv_topi (fun x_80 ex_80 => ?_)
    have hE := bd_at ex_80 hE
    have u_x_80 := congrArg Int32.toInt ex_80
    refine lv_bipush (v := 8) hx hb dX11_grows_211 (by decide) ?_
    refine lv_idiv hx hb dX11_grows_213 (by decide) ?_
    refine lv_topi (fun x_81 ex_81 => ?_)
    have hE := bd_at ex_81 hE
    try have t_x_81 := ti_divc (k := 8) ex_81 tk_8 (by decide) (by omega)
    refine lv_i2l hx hb dX11_grows_214 rfl ?_
    refine lv_topl (fun y_82 ey_82 => ?_)
    have hE := bd_at ey_82 hE
    refine lv_ladd hx hb dX11_grows_215 ?_
    refine lv_topl (fun y_83 ey_83 => ?_)
    have hE := bd_at ey_83 hE
    refine lv_aload_n hx hb dX11_grows_216 rfl (lv_at hl 0 rfl) ?_
    refine va_get (D := D) (ci := 11) (v := .ref (mq 64)) (C := RX11) (T := TX11) (N := 74) hx hb ha inlX11 hown hK hP 0 mw_at0 rfl 64 (by decide) (ha _ kf_X11_160) (fun _ h9 => h9) rfl dX11_grows_217 ?_
    refine lv_iload_n hx hb dX11_grows_220 rfl (lv_at hl 1 rfl) ?_
    have hin_84 : vp_in f 4 := vpi_of (by omega) (by omega)
    refine va_iald hx hb hK hP 46 0 mw_at64 rfl hin_84 dX11_grows_221 ?_
    refine lv_topi (fun x_85 ex_85 => ?_)
    have hE := bd_at ex_85 hE
    have u_x_85 := congrArg Int32.toInt ex_85
    refine lv_i2l hx hb dX11_grows_222 rfl ?_
    refine lv_topl (fun y_86 ey_86 => ?_)
    have hE := bd_at ey_86 hE
    refine lv_lsub hx hb dX11_grows_223 ?_
    refine lv_topl (fun y_87 ey_87 => ?_)
    have hE := bd_at ey_87 hE
    refine lv_lstore_n (lv' := [(2, .long y_87), (0, .ref h0), (1, .int f)]) hx hb dX11_grows_224 rfl hl (by decide) rfl (fun ls hl => ?_)
    refine lv_lload_n hx hb dX11_grows_225 rfl (lv_at hl 0 rfl) ?_
    refine lv_ldc2 (v := (-100000)) hx hb hown (ha _ kj_X11_311) dX11_grows_226 ?_
    refine W.lcmp hx hb dX11_grows_229 ?_
    refine lv_topi (fun x_88 ex_88 => ?_)
    have hE := bd_at ex_88 hE
    refine lv_if_ge (tgt := 239) hx hb dX11_grows_230 (by decide) (fun c_89 => ?_) (fun c_89 => ?_)
    · have t_c_89 := Int32.le_iff_toInt_le.mp c_89
      have hE := hE.trans (if_pos c_89)
      refine lv_lload_n hx hb dX11_grows_239 rfl (lv_at hl 0 rfl) ?_
      refine lv_ldc2 (v := 100000) hx hb hown (ha _ kj_X11_313) dX11_grows_240 ?_
      refine W.lcmp hx hb dX11_grows_243 ?_
      refine lv_topi (fun x_90 ex_90 => ?_)
      have hE := bd_at ex_90 hE
      refine lv_if_le (tgt := 253) hx hb dX11_grows_244 (by decide) (fun c_91 => ?_) (fun c_91 => ?_)
      · have t_c_91 := Int32.le_iff_toInt_le.mp c_91
        have hE := hE.trans (if_pos c_91)
        refine lv_lload_n hx hb dX11_grows_253 rfl (lv_at hl 0 rfl) ?_
        refine lv_lstore_n (lv' := [(2, .long y_87), (0, .ref h0), (1, .int f)]) hx hb dX11_grows_254 rfl hl (by decide) rfl (fun ls hl => ?_)
        exact J_255 mi ma y_87 _ _ hP hD hS hI hFI hFA hE _ (lv_sub hl [1, 2, 0] rfl)
      · have t_c_91 := Int32.lt_iff_toInt_lt.mp (Int32.not_le.mp c_91)
        have hE := hE.trans (if_neg c_91)
        refine lv_ldc2 (v := 100000) hx hb hown (ha _ kj_X11_313) dX11_grows_247 ?_
        refine lv_goto (tgt := 254) hx hb dX11_grows_250 (by decide) ?_
        refine lv_lstore_n (lv' := [(2, .long 100000), (0, .ref h0), (1, .int f)]) hx hb dX11_grows_254 rfl hl (by decide) rfl (fun ls hl => ?_)
        exact J_255 mi ma (100000 : Int64) _ _ hP hD hS hI hFI hFA hE _ (lv_sub hl [1, 2, 0] rfl)
    · have t_c_89 := Int32.lt_iff_toInt_lt.mp (Int32.not_le.mp c_89)
      have hE := hE.trans (if_neg c_89)
      refine lv_ldc2 (v := (-100000)) hx hb hown (ha _ kj_X11_311) dX11_grows_233 ?_
      refine lv_goto (tgt := 254) hx hb dX11_grows_236 (by decide) ?_
      refine lv_lstore_n (lv' := [(2, .long (-100000)), (0, .ref h0), (1, .int f)]) hx hb dX11_grows_254 rfl hl (by decide) rfl (fun ls hl => ?_)
      exact J_255 mi ma ((-100000) : Int64) _ _ hP hD hS hI hFI hFA hE _ (lv_sub hl [1, 2, 0] rfl)
  have J_108 : ∀ (n_108 : Nat), ∀ (mi : Nat → Int32) (ma : Nat → Nat → Int32) (j2 : Int64) (i4 : Int32) (H : Heap) (locs : List Loc), va_P D vwCl (mw cI cZ h0 mq mi ma) H → va_D A (mw cI cZ h0 mq mi ma) → va_S A s.heap H locs → MB mi ma → (∀ k, k ∉ ([] : List Nat) → mi k = mi0 k) → (∀ k, k ∉ ([67, 64, 65, 66, 47, 68] : List Nat) → ma k = ma0 k) → RES = x_grows_108 f n_108 mi ma j2 i4 → (0 ≤ i4.toInt ∧ i4.toInt ≤ 8700 ∧ j2.toInt ≤ 640000000000) → ∀ (ls : Array Slot), lv_has ls 10 [(0, .ref h0), (1, .int f), (2, .long j2), (4, .int i4)] → ((8700 - i4.toInt).toNat) < n_108 → W p l e ({ frames := 1, cells := 0, slots := 0, locals := 22 }) s m #[(.ref h0 : Value), (.int f : Value)] below meth c H locs 0 0 QP (F0 m 108 ls []) := by
    intro n_108
    induction n_108 with
    | zero => intros; exact absurd ‹_ < 0› (Nat.not_lt_zero _)
    | succ n_108 ih_108 =>
      intro mi ma j2 i4 H locs hP hD hS hI hFI hFA hE hv ls hl hm
      have hfN : f.toNatClampNeg < 4 := in_lt (vpi_of (n := 4) hf0 (by omega))
      have hle := MB_le2n hI f.toNatClampNeg hfN
      have hlh := MB_le2h hI f.toNatClampNeg hfN
      rw [x_grows_108] at hE
      refine lv_iload hx hb dX11_grows_108 (lv_at hl 3 rfl) ?_
      refine lv_i2l hx hb dX11_grows_110 rfl ?_
      refine lv_topl (fun y_92 ey_92 => ?_)
      have hE := bd_at ey_92 hE
      refine lv_lconst (v := 1) hx hb dX11_grows_111 (by decide) ?_
      refine lv_ladd hx hb dX11_grows_112 ?_
      refine lv_topl (fun y_93 ey_93 => ?_)
      have hE := bd_at ey_93 hE
      refine lv_iload hx hb dX11_grows_113 (lv_at hl 3 rfl) ?_
      refine lv_i2l hx hb dX11_grows_115 rfl ?_
      refine lv_topl (fun y_94 ey_94 => ?_)
      have hE := bd_at ey_94 hE
      refine lv_lconst (v := 1) hx hb dX11_grows_116 (by decide) ?_
      refine lv_ladd hx hb dX11_grows_117 ?_
      refine lv_topl (fun y_95 ey_95 => ?_)
      have hE := bd_at ey_95 hE
      refine lv_lmul hx hb dX11_grows_118 ?_
      refine lv_topl (fun y_96 ey_96 => ?_)
      have hE := bd_at ey_96 hE
      refine lv_iload hx hb dX11_grows_119 (lv_at hl 3 rfl) ?_
      refine lv_i2l hx hb dX11_grows_121 rfl ?_
      refine lv_topl (fun y_97 ey_97 => ?_)
      have hE := bd_at ey_97 hE
      refine lv_lconst (v := 1) hx hb dX11_grows_122 (by decide) ?_
      refine lv_ladd hx hb dX11_grows_123 ?_
      refine lv_topl (fun y_98 ey_98 => ?_)
      have hE := bd_at ey_98 hE
      refine lv_lmul hx hb dX11_grows_124 ?_
      refine lv_topl (fun y_99 ey_99 => ?_)
      have hE := bd_at ey_99 hE
      refine lv_lload_n hx hb dX11_grows_125 rfl (lv_at hl 2 rfl) ?_
      refine W.lcmp hx hb dX11_grows_126 ?_
      refine lv_topi (fun x_100 ex_100 => ?_)
      have hE := bd_at ex_100 hE
      refine lv_if_gt (tgt := 136) hx hb dX11_grows_127 (by decide) (fun c_101 => ?_) (fun c_101 => ?_)
      · have t_c_101 := Int32.lt_iff_toInt_lt.mp c_101
        have hE := hE.trans (if_pos c_101)
        refine lv_aload_n hx hb dX11_grows_136 rfl (lv_at hl 0 rfl) ?_
        refine va_get (D := D) (ci := 11) (v := .ref (mq 64)) (C := RX11) (T := TX11) (N := 74) hx hb ha inlX11 hown hK hP 0 mw_at0 rfl 64 (by decide) (ha _ kf_X11_160) (fun _ h9 => h9) rfl dX11_grows_137 ?_
        refine lv_iload_n hx hb dX11_grows_140 rfl (lv_at hl 1 rfl) ?_
        refine lv_iload hx hb dX11_grows_141 (lv_at hl 3 rfl) ?_
        have hin_102 : vp_in f 4 := vpi_of (by omega) (by omega)
        refine va_iast hx hb hK hP hD hS 46 0 mw_at64 rfl hin_102 dX11_grows_143 (fun H locs hP hD hS => ?_)
        have hP : va_P D vwCl (mw cI cZ h0 mq mi (va_up ma 64 (upd (ma 64) f.toNatClampNeg i4))) H := mwP_64 hP
        have hD : va_D A (mw cI cZ h0 mq mi (va_up ma 64 (upd (ma 64) f.toNatClampNeg i4))) := mwD_64 hD
        generalize hma_103 : va_up ma 64 (upd (ma 64) f.toNatClampNeg i4) = ma_103 at hP hD
        have hI : MB mi ma_103 := by rw [← hma_103]; exact MBa_kOf hI
        have hFA : ∀ k, k ∉ ([67, 64, 65, 66, 47, 68] : List Nat) → ma_103 k = ma0 k := fun k hk => by rw [← hma_103]; exact (va_up_ne _ _ (fun e => hk (by rw [e]; decide))).trans (hFA k hk)
        have hE := bs_at hma_103 hE
        refine lv_aload_n hx hb dX11_grows_144 rfl (lv_at hl 0 rfl) ?_
        refine va_get (D := D) (ci := 11) (v := .ref (mq 65)) (C := RX11) (T := TX11) (N := 74) hx hb ha inlX11 hown hK hP 0 mw_at0 rfl 65 (by decide) (ha _ kf_X11_163) (fun _ h9 => h9) rfl dX11_grows_145 ?_
        refine lv_iload_n hx hb dX11_grows_148 rfl (lv_at hl 1 rfl) ?_
        refine lv_aload_n hx hb dX11_grows_149 rfl (lv_at hl 0 rfl) ?_
        refine va_get (D := D) (ci := 11) (v := .ref (mq 63)) (C := RX11) (T := TX11) (N := 74) hx hb ha inlX11 hown hK hP 0 mw_at0 rfl 63 (by decide) (ha _ kf_X11_157) (fun _ h9 => h9) rfl dX11_grows_150 ?_
        refine lv_iload_n hx hb dX11_grows_153 rfl (lv_at hl 1 rfl) ?_
        have hin_104 : vp_in f 4 := vpi_of (by omega) (by omega)
        refine va_iald hx hb hK hP 45 0 mw_at63 rfl hin_104 dX11_grows_154 ?_
        refine lv_topi (fun x_105 ex_105 => ?_)
        have hE := bd_at ex_105 hE
        have u_x_105 := congrArg Int32.toInt ex_105
        have r_x_105 := rg_ld (MB_wmax hI) hin_104 ex_105
        refine lv_aload_n hx hb dX11_grows_155 rfl (lv_at hl 0 rfl) ?_
        refine va_get (D := D) (ci := 11) (v := .ref (mq 47)) (C := RX11) (T := TX11) (N := 74) hx hb ha inlX11 hown hK hP 0 mw_at0 rfl 47 (by decide) (ha _ kf_X11_109) (fun _ h9 => h9) rfl dX11_grows_156 ?_
        refine lv_iload_n hx hb dX11_grows_159 rfl (lv_at hl 1 rfl) ?_
        have hin_106 : vp_in f 4 := vpi_of (by omega) (by omega)
        refine va_iald hx hb hK hP 29 0 mw_at47 rfl hin_106 dX11_grows_160 ?_
        refine lv_topi (fun x_107 ex_107 => ?_)
        have hE := bd_at ex_107 hE
        have u_x_107 := congrArg Int32.toInt ex_107
        have r_x_107 := rg_ld (MB_cwnd hI) hin_106 ex_107
        have g1_x_107 := ge1_ld (MB_ge1c hI) hf0 (by rw [hFI 32 (by decide), hmi0]; omega) ex_107
        have nz_x_107 : ¬ x_107 = 0 := nz_of g1_x_107
        refine lv_icmp_le (tgt := 173) hx hb dX11_grows_161 (by decide) (fun c_108 => ?_) (fun c_108 => ?_)
        · have t_c_108 := Int32.le_iff_toInt_le.mp c_108
          have hE := hE.trans (if_pos c_108)
          refine lv_aload_n hx hb dX11_grows_173 rfl (lv_at hl 0 rfl) ?_
          refine va_get (D := D) (ci := 11) (v := .ref (mq 47)) (C := RX11) (T := TX11) (N := 74) hx hb ha inlX11 hown hK hP 0 mw_at0 rfl 47 (by decide) (ha _ kf_X11_109) (fun _ h9 => h9) rfl dX11_grows_174 ?_
          refine lv_iload_n hx hb dX11_grows_177 rfl (lv_at hl 1 rfl) ?_
          have hin_109 : vp_in f 4 := vpi_of (by omega) (by omega)
          refine va_iald hx hb hK hP 29 0 mw_at47 rfl hin_109 dX11_grows_178 ?_
          refine lv_topi (fun x_110 ex_110 => ?_)
          have hE := bd_at ex_110 hE
          have u_x_110 := congrArg Int32.toInt ex_110
          have r_x_110 := rg_ld (MB_cwnd hI) hin_109 ex_110
          have g1_x_110 := ge1_ld (MB_ge1c hI) hf0 (by rw [hFI 32 (by decide), hmi0]; omega) ex_110
          have nz_x_110 : ¬ x_110 = 0 := nz_of g1_x_110
          have hin_111 : vp_in f 4 := vpi_of (by omega) (by omega)
          refine va_iast hx hb hK hP hD hS 47 0 mw_at65 rfl hin_111 dX11_grows_179 (fun H locs hP hD hS => ?_)
          have hP : va_P D vwCl (mw cI cZ h0 mq mi (va_up ma_103 65 (upd (ma_103 65) f.toNatClampNeg x_110))) H := mwP_65 hP
          have hD : va_D A (mw cI cZ h0 mq mi (va_up ma_103 65 (upd (ma_103 65) f.toNatClampNeg x_110))) := mwD_65 hD
          generalize hma_112 : va_up ma_103 65 (upd (ma_103 65) f.toNatClampNeg x_110) = ma_112 at hP hD
          have hI : MB mi ma_112 := by rw [← hma_112]; exact MBa_origin hI
          have hFA : ∀ k, k ∉ ([67, 64, 65, 66, 47, 68] : List Nat) → ma_112 k = ma0 k := fun k hk => by rw [← hma_112]; exact (va_up_ne _ _ (fun e => hk (by rw [e]; decide))).trans (hFA k hk)
          have hE := bs_at hma_112 hE
          refine lv_aload_n hx hb dX11_grows_180 rfl (lv_at hl 0 rfl) ?_
          refine va_get (D := D) (ci := 11) (v := .ref (mq 66)) (C := RX11) (T := TX11) (N := 74) hx hb ha inlX11 hown hK hP 0 mw_at0 rfl 66 (by decide) (ha _ kf_X11_166) (fun _ h9 => h9) rfl dX11_grows_181 ?_
          refine lv_iload_n hx hb dX11_grows_184 rfl (lv_at hl 1 rfl) ?_
          refine lv_aload_n hx hb dX11_grows_185 rfl (lv_at hl 0 rfl) ?_
          refine va_get (D := D) (ci := 11) (v := .ref (mq 47)) (C := RX11) (T := TX11) (N := 74) hx hb ha inlX11 hown hK hP 0 mw_at0 rfl 47 (by decide) (ha _ kf_X11_109) (fun _ h9 => h9) rfl dX11_grows_186 ?_
          refine lv_iload_n hx hb dX11_grows_189 rfl (lv_at hl 1 rfl) ?_
          have hin_113 : vp_in f 4 := vpi_of (by omega) (by omega)
          refine va_iald hx hb hK hP 29 0 mw_at47 rfl hin_113 dX11_grows_190 ?_
          refine lv_topi (fun x_114 ex_114 => ?_)
          have hE := bd_at ex_114 hE
          have u_x_114 := congrArg Int32.toInt ex_114
          have q_x_114 : x_114.toInt = x_110.toInt := congrArg Int32.toInt (ex_114.trans (((congrFun (congrFun hma_112 47) _).symm).trans (ex_110.symm)))
          have r_x_114 := rg_ld (MB_cwnd hI) hin_113 ex_114
          have g1_x_114 := ge1_ld (MB_ge1c hI) hf0 (by rw [hFI 32 (by decide), hmi0]; omega) ex_114
          have nz_x_114 : ¬ x_114 = 0 := nz_of g1_x_114
          have hin_115 : vp_in f 4 := vpi_of (by omega) (by omega)
          refine va_iast hx hb hK hP hD hS 48 0 mw_at66 rfl hin_115 dX11_grows_191 (fun H locs hP hD hS => ?_)
          have hP : va_P D vwCl (mw cI cZ h0 mq mi (va_up ma_112 66 (upd (ma_112 66) f.toNatClampNeg x_114))) H := mwP_66 hP
          have hD : va_D A (mw cI cZ h0 mq mi (va_up ma_112 66 (upd (ma_112 66) f.toNatClampNeg x_114))) := mwD_66 hD
          generalize hma_116 : va_up ma_112 66 (upd (ma_112 66) f.toNatClampNeg x_114) = ma_116 at hP hD
          have hI : MB mi ma_116 := by rw [← hma_116]; exact MBa_est hI
          have hFA : ∀ k, k ∉ ([67, 64, 65, 66, 47, 68] : List Nat) → ma_116 k = ma0 k := fun k hk => by rw [← hma_116]; exact (va_up_ne _ _ (fun e => hk (by rw [e]; decide))).trans (hFA k hk)
          have hE := bs_at hma_116 hE
          exact J_192 mi ma_116  _ _ hP hD hS hI hFI hFA hE _ (lv_sub hl [0, 1] rfl)
        · have t_c_108 := Int32.lt_iff_toInt_lt.mp (Int32.not_le.mp c_108)
          have hE := hE.trans (if_neg c_108)
          refine lv_aload_n hx hb dX11_grows_164 rfl (lv_at hl 0 rfl) ?_
          refine va_get (D := D) (ci := 11) (v := .ref (mq 63)) (C := RX11) (T := TX11) (N := 74) hx hb ha inlX11 hown hK hP 0 mw_at0 rfl 63 (by decide) (ha _ kf_X11_157) (fun _ h9 => h9) rfl dX11_grows_165 ?_
          refine lv_iload_n hx hb dX11_grows_168 rfl (lv_at hl 1 rfl) ?_
          have hin_117 : vp_in f 4 := vpi_of (by omega) (by omega)
          refine va_iald hx hb hK hP 45 0 mw_at63 rfl hin_117 dX11_grows_169 ?_
          refine lv_topi (fun x_118 ex_118 => ?_)
          have hE := bd_at ex_118 hE
          have u_x_118 := congrArg Int32.toInt ex_118
          have r_x_118 := rg_ld (MB_wmax hI) hin_117 ex_118
          refine lv_goto (tgt := 179) hx hb dX11_grows_170 (by decide) ?_
          have hin_119 : vp_in f 4 := vpi_of (by omega) (by omega)
          refine va_iast hx hb hK hP hD hS 47 0 mw_at65 rfl hin_119 dX11_grows_179 (fun H locs hP hD hS => ?_)
          have hP : va_P D vwCl (mw cI cZ h0 mq mi (va_up ma_103 65 (upd (ma_103 65) f.toNatClampNeg x_118))) H := mwP_65 hP
          have hD : va_D A (mw cI cZ h0 mq mi (va_up ma_103 65 (upd (ma_103 65) f.toNatClampNeg x_118))) := mwD_65 hD
          generalize hma_120 : va_up ma_103 65 (upd (ma_103 65) f.toNatClampNeg x_118) = ma_120 at hP hD
          have hI : MB mi ma_120 := by rw [← hma_120]; exact MBa_origin hI
          have hFA : ∀ k, k ∉ ([67, 64, 65, 66, 47, 68] : List Nat) → ma_120 k = ma0 k := fun k hk => by rw [← hma_120]; exact (va_up_ne _ _ (fun e => hk (by rw [e]; decide))).trans (hFA k hk)
          have hE := bs_at hma_120 hE
          refine lv_aload_n hx hb dX11_grows_180 rfl (lv_at hl 0 rfl) ?_
          refine va_get (D := D) (ci := 11) (v := .ref (mq 66)) (C := RX11) (T := TX11) (N := 74) hx hb ha inlX11 hown hK hP 0 mw_at0 rfl 66 (by decide) (ha _ kf_X11_166) (fun _ h9 => h9) rfl dX11_grows_181 ?_
          refine lv_iload_n hx hb dX11_grows_184 rfl (lv_at hl 1 rfl) ?_
          refine lv_aload_n hx hb dX11_grows_185 rfl (lv_at hl 0 rfl) ?_
          refine va_get (D := D) (ci := 11) (v := .ref (mq 47)) (C := RX11) (T := TX11) (N := 74) hx hb ha inlX11 hown hK hP 0 mw_at0 rfl 47 (by decide) (ha _ kf_X11_109) (fun _ h9 => h9) rfl dX11_grows_186 ?_
          refine lv_iload_n hx hb dX11_grows_189 rfl (lv_at hl 1 rfl) ?_
          have hin_121 : vp_in f 4 := vpi_of (by omega) (by omega)
          refine va_iald hx hb hK hP 29 0 mw_at47 rfl hin_121 dX11_grows_190 ?_
          refine lv_topi (fun x_122 ex_122 => ?_)
          have hE := bd_at ex_122 hE
          have u_x_122 := congrArg Int32.toInt ex_122
          have q_x_122 : x_122.toInt = x_107.toInt := congrArg Int32.toInt (ex_122.trans (((congrFun (congrFun hma_120 47) _).symm).trans (ex_107.symm)))
          have r_x_122 := rg_ld (MB_cwnd hI) hin_121 ex_122
          have g1_x_122 := ge1_ld (MB_ge1c hI) hf0 (by rw [hFI 32 (by decide), hmi0]; omega) ex_122
          have nz_x_122 : ¬ x_122 = 0 := nz_of g1_x_122
          have hin_123 : vp_in f 4 := vpi_of (by omega) (by omega)
          refine va_iast hx hb hK hP hD hS 48 0 mw_at66 rfl hin_123 dX11_grows_191 (fun H locs hP hD hS => ?_)
          have hP : va_P D vwCl (mw cI cZ h0 mq mi (va_up ma_120 66 (upd (ma_120 66) f.toNatClampNeg x_122))) H := mwP_66 hP
          have hD : va_D A (mw cI cZ h0 mq mi (va_up ma_120 66 (upd (ma_120 66) f.toNatClampNeg x_122))) := mwD_66 hD
          generalize hma_124 : va_up ma_120 66 (upd (ma_120 66) f.toNatClampNeg x_122) = ma_124 at hP hD
          have hI : MB mi ma_124 := by rw [← hma_124]; exact MBa_est hI
          have hFA : ∀ k, k ∉ ([67, 64, 65, 66, 47, 68] : List Nat) → ma_124 k = ma0 k := fun k hk => by rw [← hma_124]; exact (va_up_ne _ _ (fun e => hk (by rw [e]; decide))).trans (hFA k hk)
          have hE := bs_at hma_124 hE
          exact J_192 mi ma_124  _ _ hP hD hS hI hFI hFA hE _ (lv_sub hl [0, 1] rfl)
      · have t_c_101 := Int32.le_iff_toInt_le.mp (Int32.not_lt.mp c_101)
        have hE := hE.trans (if_neg c_101)
        obtain ⟨x_125, ex_125⟩ : ∃ y : Int32, y = i4 + 1 := ⟨_, rfl⟩
        have hE := bd_at ex_125 hE
        refine lv_iinc (v := x_125) (lv' := [(4, .int x_125), (0, .ref h0), (1, .int f), (2, .long j2)]) hx hb dX11_grows_130 hl (k := 3) rfl (by rw [ex_125]; rfl) (by decide) rfl (fun ls hl => ?_)
        try have t_x_125 := ti_add ex_125 (by omega) (by omega)
        refine lv_goto (tgt := 108) hx hb dX11_grows_133 (by decide) ?_
        exact ih_108 mi ma j2 x_125 _ _ hP hD hS hI hFI hFA hE ⟨by omega, by have b := cube_lt ey_92 ey_93 ey_94 ey_95 ey_97 ey_98 ey_96 ey_99 ex_100 (Int32.not_lt.mp c_101) hv.2.1 hv.2.2; omega, hv.2.2⟩ _ (lv_sub hl [1, 2, 3, 0] rfl) (by have b := cube_lt ey_92 ey_93 ey_94 ey_95 ey_97 ey_98 ey_96 ey_99 ex_100 (Int32.not_lt.mp c_101) hv.2.1 hv.2.2; omega)
  -- from the entry
  rw [hQP] at J_108
  rw [hQP] at J_192
  rw [hQP] at J_255
  rw [hQP] at J_331
  have hE := hRES
  unfold x_grows at hE
  refine lv_aload_n hx hb dX11_grows_0 rfl (lv_at hl 0 rfl) ?_
  refine va_get (D := D) (ci := 11) (v := .ref (mq 42)) (C := RX11) (T := TX11) (N := 74) hx hb ha inlX11 hown hK hP 0 mw_at0 rfl 42 (by decide) (ha _ kf_X11_94) (fun _ h9 => h9) rfl dX11_grows_1 ?_
  refine lv_iload_n hx hb dX11_grows_4 rfl (lv_at hl 1 rfl) ?_
  have hin_126 : vp_in f 4 := vpi_of (by omega) (by omega)
  refine va_iald hx hb hK hP 24 0 mw_at42 rfl hin_126 dX11_grows_5 ?_
  refine lv_topi (fun x_127 ex_127 => ?_)
  have hE := bd_at ex_127 hE
  have u_x_127 := congrArg Int32.toInt ex_127
  refine lv_iconst (v := 2) hx hb dX11_grows_6 (by decide) ?_
  refine lv_icmp_eq (tgt := 43) hx hb dX11_grows_7 (by decide) (fun c_128 => ?_) (fun c_128 => ?_)
  · have t_c_128 := congrArg Int32.toInt c_128
    have hE := hE.trans (if_pos c_128)
    refine lv_aload_n hx hb dX11_grows_43 rfl (lv_at hl 0 rfl) ?_
    refine va_get (D := D) (ci := 11) (v := .ref (mq 67)) (C := RX11) (T := TX11) (N := 74) hx hb ha inlX11 hown hK hP 0 mw_at0 rfl 67 (by decide) (ha _ kf_X11_169) (fun _ h9 => h9) rfl dX11_grows_44 ?_
    refine lv_iload_n hx hb dX11_grows_47 rfl (lv_at hl 1 rfl) ?_
    have hin_129 : vp_in f 4 := vpi_of (by omega) (by omega)
    refine va_iald hx hb hK hP 49 0 mw_at67 rfl hin_129 dX11_grows_48 ?_
    refine lv_topi (fun x_130 ex_130 => ?_)
    have hE := bd_at ex_130 hE
    have u_x_130 := congrArg Int32.toInt ex_130
    refine lv_iconst (v := (-1)) hx hb dX11_grows_49 (by decide) ?_
    refine lv_icmp_ne (tgt := 192) hx hb dX11_grows_50 (by decide) (fun c_131 => ?_) (fun c_131 => ?_)
    · have t_c_131 := mt Int32.toInt_inj.mp c_131
      have hE := hE.trans (if_neg c_131)
      exact J_192 mi ma  _ _ hP hD hS hI hFI hFA hE _ (lv_sub hl [0, 1] rfl)
    · have t_c_131 := congrArg Int32.toInt c_131
      have hE := hE.trans (if_pos c_131)
      refine lv_aload_n hx hb dX11_grows_53 rfl (lv_at hl 0 rfl) ?_
      refine va_get (D := D) (ci := 11) (v := .ref (mq 67)) (C := RX11) (T := TX11) (N := 74) hx hb ha inlX11 hown hK hP 0 mw_at0 rfl 67 (by decide) (ha _ kf_X11_169) (fun _ h9 => h9) rfl dX11_grows_54 ?_
      refine lv_iload_n hx hb dX11_grows_57 rfl (lv_at hl 1 rfl) ?_
      refine lv_aload_n hx hb dX11_grows_58 rfl (lv_at hl 0 rfl) ?_
      refine va_get (D := D) (ci := 11) (v := .int (mi 4)) (C := RX11) (T := TX11) (N := 74) hx hb ha inlX11 hown hK hP 0 mw_at0 rfl 4 (by decide) (ha _ kf_X11_207) (fun _ h9 => h9) rfl dX11_grows_59 ?_
      refine lv_topi (fun x_132 ex_132 => ?_)
      have hE := bd_at ex_132 hE
      have u_x_132 := congrArg Int32.toInt ex_132
      have r_x_132 := MB_tick hI
      rw [← ex_132] at r_x_132
      have hin_133 : vp_in f 4 := vpi_of (by omega) (by omega)
      refine va_iast hx hb hK hP hD hS 49 0 mw_at67 rfl hin_133 dX11_grows_62 (fun H locs hP hD hS => ?_)
      have hP : va_P D vwCl (mw cI cZ h0 mq mi (va_up ma 67 (upd (ma 67) f.toNatClampNeg x_132))) H := mwP_67 hP
      have hD : va_D A (mw cI cZ h0 mq mi (va_up ma 67 (upd (ma 67) f.toNatClampNeg x_132))) := mwD_67 hD
      generalize hma_134 : va_up ma 67 (upd (ma 67) f.toNatClampNeg x_132) = ma_134 at hP hD
      have hI : MB mi ma_134 := by rw [← hma_134]; exact MBa_epoch hI
      have hFA : ∀ k, k ∉ ([67, 64, 65, 66, 47, 68] : List Nat) → ma_134 k = ma0 k := fun k hk => by rw [← hma_134]; exact (va_up_ne _ _ (fun e => hk (by rw [e]; decide))).trans (hFA k hk)
      have hE := bs_at hma_134 hE
      refine lv_aload_n hx hb dX11_grows_63 rfl (lv_at hl 0 rfl) ?_
      refine va_get (D := D) (ci := 11) (v := .ref (mq 47)) (C := RX11) (T := TX11) (N := 74) hx hb ha inlX11 hown hK hP 0 mw_at0 rfl 47 (by decide) (ha _ kf_X11_109) (fun _ h9 => h9) rfl dX11_grows_64 ?_
      refine lv_iload_n hx hb dX11_grows_67 rfl (lv_at hl 1 rfl) ?_
      have hin_135 : vp_in f 4 := vpi_of (by omega) (by omega)
      refine va_iald hx hb hK hP 29 0 mw_at47 rfl hin_135 dX11_grows_68 ?_
      refine lv_topi (fun x_136 ex_136 => ?_)
      have hE := bd_at ex_136 hE
      have u_x_136 := congrArg Int32.toInt ex_136
      have r_x_136 := rg_ld (MB_cwnd hI) hin_135 ex_136
      have g1_x_136 := ge1_ld (MB_ge1c hI) hf0 (by rw [hFI 32 (by decide), hmi0]; omega) ex_136
      have nz_x_136 : ¬ x_136 = 0 := nz_of g1_x_136
      refine lv_aload_n hx hb dX11_grows_69 rfl (lv_at hl 0 rfl) ?_
      refine va_get (D := D) (ci := 11) (v := .ref (mq 63)) (C := RX11) (T := TX11) (N := 74) hx hb ha inlX11 hown hK hP 0 mw_at0 rfl 63 (by decide) (ha _ kf_X11_157) (fun _ h9 => h9) rfl dX11_grows_70 ?_
      refine lv_iload_n hx hb dX11_grows_73 rfl (lv_at hl 1 rfl) ?_
      have hin_137 : vp_in f 4 := vpi_of (by omega) (by omega)
      refine va_iald hx hb hK hP 45 0 mw_at63 rfl hin_137 dX11_grows_74 ?_
      refine lv_topi (fun x_138 ex_138 => ?_)
      have hE := bd_at ex_138 hE
      have u_x_138 := congrArg Int32.toInt ex_138
      have r_x_138 := rg_ld (MB_wmax hI) hin_137 ex_138
      refine lv_icmp_ge (tgt := 103) hx hb dX11_grows_75 (by decide) (fun c_139 => ?_) (fun c_139 => ?_)
      · have t_c_139 := Int32.le_iff_toInt_le.mp c_139
        have hE := hE.trans (if_pos c_139)
        refine lv_lconst (v := 0) hx hb dX11_grows_103 (by decide) ?_
        refine lv_lstore_n (lv' := [(2, .long 0), (0, .ref h0), (1, .int f)]) hx hb dX11_grows_104 rfl hl (by decide) rfl (fun ls hl => ?_)
        refine lv_iconst (v := 0) hx hb dX11_grows_105 (by decide) ?_
        refine lv_istore (lv' := [(4, .int 0), (2, .long 0), (0, .ref h0), (1, .int f)]) hx hb dX11_grows_106 hl (by decide) rfl (fun ls hl => ?_)
        exact J_108 8701 mi ma_134 (0 : Int64) (0 : Int32) _ _ hP hD hS hI hFI hFA hE ⟨by omega, by omega, (by decide)⟩ _ (lv_sub hl [2, 3, 1, 0] rfl) (by omega)
      · have t_c_139 := Int32.lt_iff_toInt_lt.mp (Int32.not_le.mp c_139)
        have hE := hE.trans (if_neg c_139)
        refine lv_aload_n hx hb dX11_grows_78 rfl (lv_at hl 0 rfl) ?_
        refine va_get (D := D) (ci := 11) (v := .ref (mq 63)) (C := RX11) (T := TX11) (N := 74) hx hb ha inlX11 hown hK hP 0 mw_at0 rfl 63 (by decide) (ha _ kf_X11_157) (fun _ h9 => h9) rfl dX11_grows_79 ?_
        refine lv_iload_n hx hb dX11_grows_82 rfl (lv_at hl 1 rfl) ?_
        have hin_140 : vp_in f 4 := vpi_of (by omega) (by omega)
        refine va_iald hx hb hK hP 45 0 mw_at63 rfl hin_140 dX11_grows_83 ?_
        refine lv_topi (fun x_141 ex_141 => ?_)
        have hE := bd_at ex_141 hE
        have u_x_141 := congrArg Int32.toInt ex_141
        have r_x_141 := rg_ld (MB_wmax hI) hin_140 ex_141
        refine lv_aload_n hx hb dX11_grows_84 rfl (lv_at hl 0 rfl) ?_
        refine va_get (D := D) (ci := 11) (v := .ref (mq 47)) (C := RX11) (T := TX11) (N := 74) hx hb ha inlX11 hown hK hP 0 mw_at0 rfl 47 (by decide) (ha _ kf_X11_109) (fun _ h9 => h9) rfl dX11_grows_85 ?_
        refine lv_iload_n hx hb dX11_grows_88 rfl (lv_at hl 1 rfl) ?_
        have hin_142 : vp_in f 4 := vpi_of (by omega) (by omega)
        refine va_iald hx hb hK hP 29 0 mw_at47 rfl hin_142 dX11_grows_89 ?_
        refine lv_topi (fun x_143 ex_143 => ?_)
        have hE := bd_at ex_143 hE
        have u_x_143 := congrArg Int32.toInt ex_143
        have r_x_143 := rg_ld (MB_cwnd hI) hin_142 ex_143
        have g1_x_143 := ge1_ld (MB_ge1c hI) hf0 (by rw [hFI 32 (by decide), hmi0]; omega) ex_143
        have nz_x_143 : ¬ x_143 = 0 := nz_of g1_x_143
        refine lv_isub hx hb dX11_grows_90 ?_
        refine lv_topi (fun x_144 ex_144 => ?_)
        have hE := bd_at ex_144 hE
        try have t_x_144 := ti_sub ex_144 (by omega) (by omega)
        refine lv_i2l hx hb dX11_grows_91 rfl ?_
        refine lv_topl (fun y_145 ey_145 => ?_)
        have hE := bd_at ey_145 hE
        refine lv_ldc2 (v := 2500000000) hx hb hown (ha _ kj_X11_307) dX11_grows_92 ?_
        refine lv_lmul hx hb dX11_grows_95 ?_
        refine lv_topl (fun y_146 ey_146 => ?_)
        have hE := bd_at ey_146 hE
        refine lv_ldc2 (v := 1024) hx hb hown (ha _ kj_X11_309) dX11_grows_96 ?_
        refine lv_ldiv hx hb dX11_grows_99 (by decide) ?_
        refine lv_topl (fun y_147 ey_147 => ?_)
        have hE := bd_at ey_147 hE
        refine lv_goto (tgt := 104) hx hb dX11_grows_100 (by decide) ?_
        refine lv_lstore_n (lv' := [(2, .long y_147), (0, .ref h0), (1, .int f)]) hx hb dX11_grows_104 rfl hl (by decide) rfl (fun ls hl => ?_)
        refine lv_iconst (v := 0) hx hb dX11_grows_105 (by decide) ?_
        refine lv_istore (lv' := [(4, .int 0), (2, .long y_147), (0, .ref h0), (1, .int f)]) hx hb dX11_grows_106 hl (by decide) rfl (fun ls hl => ?_)
        exact J_108 8701 mi ma_134 y_147 (0 : Int32) _ _ hP hD hS hI hFI hFA hE ⟨by omega, by omega, (third_bd ey_145 ey_146 ey_147 (by omega) (by omega))⟩ _ (lv_sub hl [2, 3, 1, 0] rfl) (by omega)
  · have t_c_128 := mt Int32.toInt_inj.mp c_128
    have hE := hE.trans (if_neg c_128)
    refine lv_ldc (v := 1048576) hx hb hown (ha _ kk_X11_194) dX11_grows_10 ?_
    refine lv_aload_n hx hb dX11_grows_12 rfl (lv_at hl 0 rfl) ?_
    refine va_get (D := D) (ci := 11) (v := .ref (mq 47)) (C := RX11) (T := TX11) (N := 74) hx hb ha inlX11 hown hK hP 0 mw_at0 rfl 47 (by decide) (ha _ kf_X11_109) (fun _ h9 => h9) rfl dX11_grows_13 ?_
    refine lv_iload_n hx hb dX11_grows_16 rfl (lv_at hl 1 rfl) ?_
    have hin_148 : vp_in f 4 := vpi_of (by omega) (by omega)
    refine va_iald hx hb hK hP 29 0 mw_at47 rfl hin_148 dX11_grows_17 ?_
    refine lv_topi (fun x_149 ex_149 => ?_)
    have hE := bd_at ex_149 hE
    have u_x_149 := congrArg Int32.toInt ex_149
    have r_x_149 := rg_ld (MB_cwnd hI) hin_148 ex_149
    have g1_x_149 := ge1_ld (MB_ge1c hI) hf0 (by rw [hFI 32 (by decide), hmi0]; omega) ex_149
    have nz_x_149 : ¬ x_149 = 0 := nz_of g1_x_149
    refine lv_idiv hx hb dX11_grows_18 (nz_of (by omega)) ?_
    refine lv_topi (fun x_150 ex_150 => ?_)
    have hE := bd_at ex_150 hE
    have t_x_150 := ti_divv ex_150 (by omega) (by omega)
    refine lv_istore_n (lv' := [(2, .int x_150), (0, .ref h0), (1, .int f)]) hx hb dX11_grows_19 rfl hl (by decide) rfl (fun ls hl => ?_)
    refine lv_aload_n hx hb dX11_grows_20 rfl (lv_at hl 1 rfl) ?_
    refine lv_iload_n hx hb dX11_grows_21 rfl (lv_at hl 2 rfl) ?_
    refine lv_aload_n hx hb dX11_grows_22 rfl (lv_at hl 1 rfl) ?_
    refine va_get (D := D) (ci := 11) (v := .ref (mq 47)) (C := RX11) (T := TX11) (N := 74) hx hb ha inlX11 hown hK hP 0 mw_at0 rfl 47 (by decide) (ha _ kf_X11_109) (fun _ h9 => h9) rfl dX11_grows_23 ?_
    refine lv_iload_n hx hb dX11_grows_26 rfl (lv_at hl 2 rfl) ?_
    have hin_151 : vp_in f 4 := vpi_of (by omega) (by omega)
    refine va_iald hx hb hK hP 29 0 mw_at47 rfl hin_151 dX11_grows_27 ?_
    refine lv_topi (fun x_152 ex_152 => ?_)
    have hE := bd_at ex_152 hE
    have u_x_152 := congrArg Int32.toInt ex_152
    have r_x_152 := rg_ld (MB_cwnd hI) hin_151 ex_152
    have g1_x_152 := ge1_ld (MB_ge1c hI) hf0 (by rw [hFI 32 (by decide), hmi0]; omega) ex_152
    have nz_x_152 : ¬ x_152 = 0 := nz_of g1_x_152
    refine lv_iload_n hx hb dX11_grows_28 rfl (lv_at hl 0 rfl) ?_
    refine lv_iconst (v := 1) hx hb dX11_grows_29 (by decide) ?_
    refine lv_icmp_le (tgt := 37) hx hb dX11_grows_30 (by decide) (fun c_153 => ?_) (fun c_153 => ?_)
    · have t_c_153 := Int32.le_iff_toInt_le.mp c_153
      have hE := hE.trans (if_pos c_153)
      refine lv_iconst (v := 1) hx hb dX11_grows_37 (by decide) ?_
      refine lv_iadd hx hb dX11_grows_38 ?_
      refine lv_topi (fun x_154 ex_154 => ?_)
      have hE := bd_at ex_154 hE
      try have t_x_154 := ti_add ex_154 (by omega) (by omega)
      have hFc := va_freeW hD hS hA
      refine va_callv (va_runV (As := [.int f, .int x_154]) (rest := []) ⟨hx, hb, hml, hown, ha⟩ (m_opens l D cI cJ cZ cO _ h0 mq mi ma ph cl f x_154 hI hf0 hf4 (by omega)) (cwV 2 ha (gaV kl_X11_295 km_X11_opens ks_X11_opens kz_X11 kd_X11_opens) rfl rfl rfl (by decide +kernel) ⟨Nat.le_of_ble_eq_true rfl, Nat.le_of_ble_eq_true rfl⟩) ⟨pw_blind, va_recv hK hP (ci := 11) (q0 := 0) rfl rfl, fun U hU hW => ⟨rfl, pw_start hU hW hP hK hD hN⟩⟩ rfl rfl hl.1 rfl (lv_room (Nat.le_of_ble_eq_true rfl)) dX11_grows_39 ⟨Nat.le_of_ble_eq_true rfl, Nat.le_of_ble_eq_true rfl⟩) hS (fun q _ h => hFc q h) hFc (fun u t H1 locs ht hvm hw hB hz1 hk1 hS => ?_)
      obtain ⟨mi_156, ma_157, ⟨hf_158, hX1, hX2⟩, hP, hK1, hD1⟩ := hB
      have hE := bc_atv hX1 hX2 hE
      rw [ht] at hP
      have hD := hD1.weaken (fun k q _ h => hFc q.1 h)
      clear hD1
      generalize H1 = H at hP hS ⊢
      refine W.widen (k := 0) (n := 0) (Nat.le_refl _) (Nat.le_refl _) ?_
      have hI := hf_158.1
      have hFI : ∀ k, k ∉ ([] : List Nat) → mi_156 k = mi0 k := fun k hk => (hf_158.2.1 k (fun h => hk (by revert h; exact sub_of (by decide) k))).trans (hFI k hk)
      have hFA : ∀ k, k ∉ ([67, 64, 65, 66, 47, 68] : List Nat) → ma_157 k = ma0 k := fun k hk => (hf_158.2.2 k (fun h => hk (by revert h; exact sub_of (by decide) k))).trans (hFA k hk)
      exact W.vret hx hb hr (fun t ht hW => ⟨⟨(), rfl, trivial, ⟨mi_156, ma_157, ⟨⟨hI, fun k hk => (hFI k hk).trans (by rw [hmi0]), fun k hk => (hFA k hk).trans (by rw [hma0])⟩, by rw [← hRES, hE], by rw [← hRES, hE]⟩, by rw [ht]; exact hP, va_K.moved hW.alike hK, hD⟩⟩, hS.F ht⟩) hS.2.2 dX11_grows_42
    · have t_c_153 := Int32.lt_iff_toInt_lt.mp (Int32.not_le.mp c_153)
      have hE := hE.trans (if_neg c_153)
      refine lv_iload_n hx hb dX11_grows_33 rfl (lv_at hl 0 rfl) ?_
      refine lv_goto (tgt := 38) hx hb dX11_grows_34 (by decide) ?_
      refine lv_iadd hx hb dX11_grows_38 ?_
      refine lv_topi (fun x_159 ex_159 => ?_)
      have hE := bd_at ex_159 hE
      try have t_x_159 := ti_add ex_159 (by omega) (by omega)
      have hFc := va_freeW hD hS hA
      refine va_callv (va_runV (As := [.int f, .int x_159]) (rest := []) ⟨hx, hb, hml, hown, ha⟩ (m_opens l D cI cJ cZ cO _ h0 mq mi ma ph cl f x_159 hI hf0 hf4 (by omega)) (cwV 2 ha (gaV kl_X11_295 km_X11_opens ks_X11_opens kz_X11 kd_X11_opens) rfl rfl rfl (by decide +kernel) ⟨Nat.le_of_ble_eq_true rfl, Nat.le_of_ble_eq_true rfl⟩) ⟨pw_blind, va_recv hK hP (ci := 11) (q0 := 0) rfl rfl, fun U hU hW => ⟨rfl, pw_start hU hW hP hK hD hN⟩⟩ rfl rfl hl.1 rfl (lv_room (Nat.le_of_ble_eq_true rfl)) dX11_grows_39 ⟨Nat.le_of_ble_eq_true rfl, Nat.le_of_ble_eq_true rfl⟩) hS (fun q _ h => hFc q h) hFc (fun u t H1 locs ht hvm hw hB hz1 hk1 hS => ?_)
      obtain ⟨mi_161, ma_162, ⟨hf_163, hX1, hX2⟩, hP, hK1, hD1⟩ := hB
      have hE := bc_atv hX1 hX2 hE
      rw [ht] at hP
      have hD := hD1.weaken (fun k q _ h => hFc q.1 h)
      clear hD1
      generalize H1 = H at hP hS ⊢
      refine W.widen (k := 0) (n := 0) (Nat.le_refl _) (Nat.le_refl _) ?_
      have hI := hf_163.1
      have hFI : ∀ k, k ∉ ([] : List Nat) → mi_161 k = mi0 k := fun k hk => (hf_163.2.1 k (fun h => hk (by revert h; exact sub_of (by decide) k))).trans (hFI k hk)
      have hFA : ∀ k, k ∉ ([67, 64, 65, 66, 47, 68] : List Nat) → ma_162 k = ma0 k := fun k hk => (hf_163.2.2 k (fun h => hk (by revert h; exact sub_of (by decide) k))).trans (hFA k hk)
      exact W.vret hx hb hr (fun t ht hW => ⟨⟨(), rfl, trivial, ⟨mi_161, ma_162, ⟨⟨hI, fun k hk => (hFI k hk).trans (by rw [hmi0]), fun k hk => (hFA k hk).trans (by rw [hma0])⟩, by rw [← hRES, hE], by rw [← hRES, hE]⟩, by rw [ht]; exact hP, va_K.moved hW.alike hK, hD⟩⟩, hS.F ht⟩) hS.2.2 dX11_grows_42
