def LLP (x u : Int32) (r : Nat → Int32) (f : Int32) : Prop := x = -1 ∨ (u.toInt ≤ x.toInt ∧ x.toInt ≤ u.toInt + 199 ∧ x.toInt ≤ 1000000 ∧ r (512 * f + (x - x / 512 * 512)).toNatClampNeg = 0)
def zc (r : Nat → Int32) (f : Nat) : Nat := (List.range 512).countP (fun i => decide (r (512 * f + i) = 0))
theorem countP_mono {p q : Nat → Bool} : ∀ {l : List Nat}, (∀ x ∈ l, q x = true → p x = true) → l.countP q ≤ l.countP p
  | [], _ => Nat.le_refl _
  | a :: l, h => by
    have h1 := countP_mono (l := l) (fun x hx => h x (List.mem_cons_of_mem _ hx))
    have h2 := h a List.mem_cons_self
    rw [List.countP_cons, List.countP_cons]
    by_cases e : q a = true
    · rw [if_pos e, if_pos (h2 e)]; omega
    · rw [if_neg e]; split <;> omega
theorem countP_lt {p q : Nat → Bool} {j : Nat} : ∀ {l : List Nat}, (∀ x ∈ l, q x = true → p x = true) → j ∈ l → p j = true → ¬ q j = true → l.countP q < l.countP p
  | [], _, hj, _, _ => by cases hj
  | a :: l, h, hj, hp, hq => by
    have h2 := h a List.mem_cons_self
    rw [List.countP_cons, List.countP_cons]
    rcases List.mem_cons.mp hj with e | m
    · have h1 := countP_mono (l := l) (fun x hx => h x (List.mem_cons_of_mem _ hx))
      rw [← e, if_neg hq, if_pos hp]; omega
    · have h1 := countP_lt (l := l) (fun x hx => h x (List.mem_cons_of_mem _ hx)) m hp hq
      by_cases e : q a = true
      · rw [if_pos e, if_pos (h2 e)]; omega
      · rw [if_neg e]; split <;> omega
theorem zc_up {r : Nat → Int32} {f idx j : Nat} (h : r idx = 0) (hj : j < 512) (hi : idx = 512 * f + j) : zc (upd r idx 1) f < zc r f := by
  unfold zc
  refine countP_lt (j := j) (fun x _ hx => ?_) (List.mem_range.mpr hj) (by rw [← hi]; exact decide_eq_true h) ?_
  · have hx2 := of_decide_eq_true hx
    refine decide_eq_true ?_
    have e : upd r idx 1 (512 * f + x) = if 512 * f + x = idx then 1 else r (512 * f + x) := rfl
    rw [e] at hx2
    by_cases q : 512 * f + x = idx
    · rw [if_pos q] at hx2; exact absurd hx2 (by decide)
    · rw [if_neg q] at hx2; exact hx2
  · intro hx
    have hx2 := of_decide_eq_true hx
    have e : upd r idx 1 (512 * f + j) = if 512 * f + j = idx then 1 else r (512 * f + j) := rfl
    rw [e, if_pos hi.symm] at hx2
    exact absurd hx2 (by decide)
theorem zc_ll {r : Nat → Int32} {f x : Int32} (hf0 : 0 ≤ f.toInt) (hf4 : f.toInt < 4) (hx : 0 ≤ x.toInt) (h : r (512 * f + (x - x / 512 * 512)).toNatClampNeg = 0) : zc (upd r (512 * f + (x - x / 512 * 512)).toNatClampNeg 1) f.toNatClampNeg < zc r f.toNatClampNeg := by
  obtain ⟨y, ey⟩ : ∃ y, y = (x - x / 512 * 512) := ⟨_, rfl⟩
  obtain ⟨z, ez⟩ : ∃ z, z = 512 * f := ⟨_, rfl⟩
  obtain ⟨u, eu⟩ : ∃ u, u = z + y := ⟨_, rfl⟩
  have ty := ti_rem ey hx
  have tz := ti_mulc (k := 512) ez tk_512 (by omega) (by omega)
  have tu := ti_add eu (by omega) (by omega)
  rw [← ey, ← ez, ← eu] at h ⊢
  have c1 := cl_toInt (i := u) (by omega)
  have c2 := cl_toInt hf0
  have c3 := cl_toInt (i := y) (by omega)
  exact zc_up (j := y.toNatClampNeg) h (by omega) (by omega)

set_option maxRecDepth 100000 in
def x_pipe_19 (f : Int32) : Nat → (Nat → Int32) → (Nat → Nat → Int32) → Int32 → Int32 → Int32 → XT
  | 0, mi, ma, _, _, _ => (mi, ma, 0)
  | fu + 1, mi, ma, i2, i3, i4 => bd (ma 44 f.toNatClampNeg) (fun v1 => (if i4 < v1 then (mi, ma, i2) else bd ((200 : Int32) * f) (fun v2 => bd (v2 + i4) (fun v3 => bd (ma 44 f.toNatClampNeg) (fun v4 => bd (v3 - v4) (fun v5 => bd (ma 71 v5.toNatClampNeg) (fun v6 => (if v6 = (0 : Int32) then bd (ma 56 f.toNatClampNeg) (fun v7 => (if i4 = v7 then bd ((512 : Int32) * f) (fun v8 => bd (i4 - i4 / (512 : Int32) * (512 : Int32)) (fun v9 => bd (v8 + v9) (fun v10 => bd (ma 72 v10.toNatClampNeg) (fun v11 => bd (ma 45 f.toNatClampNeg) (fun v12 => (if v12 ≤ i4 then (if v11 = (0 : Int32) then bd (i2 + (0 : Int32)) (fun v13 => (if v11 = (0 : Int32) then bd (upd mi 73 i4) (fun m15 => bd (i4 + (-1)) (fun v16 => x_pipe_19 f fu m15 ma v13 i3 v16)) else bd (i4 + (-1)) (fun v14 => x_pipe_19 f fu mi ma v13 i3 v14))) else bd (i2 + (1 : Int32)) (fun v17 => (if v11 = (0 : Int32) then bd (upd mi 73 i4) (fun m19 => bd (i4 + (-1)) (fun v20 => x_pipe_19 f fu m19 ma v17 i3 v20)) else bd (i4 + (-1)) (fun v18 => x_pipe_19 f fu mi ma v17 i3 v18)))) else (if v11 = (0 : Int32) then bd (i2 + (0 : Int32)) (fun v21 => (if v11 = (0 : Int32) then bd (upd mi 73 i4) (fun m23 => bd (i4 + (-1)) (fun v24 => x_pipe_19 f fu m23 ma v21 i3 v24)) else bd (i4 + (-1)) (fun v22 => x_pipe_19 f fu mi ma v21 i3 v22))) else bd (i2 + (1 : Int32)) (fun v25 => (if v11 = (0 : Int32) then bd (upd mi 73 i4) (fun m27 => bd (i4 + (-1)) (fun v28 => x_pipe_19 f fu m27 ma v25 i3 v28)) else bd (i4 + (-1)) (fun v26 => x_pipe_19 f fu mi ma v25 i3 v26)))))))))) else (if i3 < (3 : Int32) then bd ((512 : Int32) * f) (fun v29 => bd (i4 - i4 / (512 : Int32) * (512 : Int32)) (fun v30 => bd (v29 + v30) (fun v31 => bd (ma 72 v31.toNatClampNeg) (fun v32 => bd (ma 45 f.toNatClampNeg) (fun v33 => (if v33 ≤ i4 then (if v32 = (0 : Int32) then bd (i2 + (0 : Int32)) (fun v34 => bd (i4 + (-1)) (fun v35 => x_pipe_19 f fu mi ma v34 i3 v35)) else bd (i2 + (1 : Int32)) (fun v36 => bd (i4 + (-1)) (fun v37 => x_pipe_19 f fu mi ma v36 i3 v37))) else (if v32 = (0 : Int32) then bd (i2 + (1 : Int32)) (fun v38 => bd (i4 + (-1)) (fun v39 => x_pipe_19 f fu mi ma v38 i3 v39)) else bd (i2 + (2 : Int32)) (fun v40 => bd (i4 + (-1)) (fun v41 => x_pipe_19 f fu mi ma v40 i3 v41))))))))) else bd ((512 : Int32) * f) (fun v42 => bd (i4 - i4 / (512 : Int32) * (512 : Int32)) (fun v43 => bd (v42 + v43) (fun v44 => bd (ma 72 v44.toNatClampNeg) (fun v45 => bd (ma 45 f.toNatClampNeg) (fun v46 => (if v46 ≤ i4 then (if v45 = (0 : Int32) then bd (i2 + (0 : Int32)) (fun v47 => (if v45 = (0 : Int32) then bd (upd mi 73 i4) (fun m49 => bd (i4 + (-1)) (fun v50 => x_pipe_19 f fu m49 ma v47 i3 v50)) else bd (i4 + (-1)) (fun v48 => x_pipe_19 f fu mi ma v47 i3 v48))) else bd (i2 + (1 : Int32)) (fun v51 => (if v45 = (0 : Int32) then bd (upd mi 73 i4) (fun m53 => bd (i4 + (-1)) (fun v54 => x_pipe_19 f fu m53 ma v51 i3 v54)) else bd (i4 + (-1)) (fun v52 => x_pipe_19 f fu mi ma v51 i3 v52)))) else (if v45 = (0 : Int32) then bd (i2 + (0 : Int32)) (fun v55 => (if v45 = (0 : Int32) then bd (upd mi 73 i4) (fun m57 => bd (i4 + (-1)) (fun v58 => x_pipe_19 f fu m57 ma v55 i3 v58)) else bd (i4 + (-1)) (fun v56 => x_pipe_19 f fu mi ma v55 i3 v56))) else bd (i2 + (1 : Int32)) (fun v59 => (if v45 = (0 : Int32) then bd (upd mi 73 i4) (fun m61 => bd (i4 + (-1)) (fun v62 => x_pipe_19 f fu m61 ma v59 i3 v62)) else bd (i4 + (-1)) (fun v60 => x_pipe_19 f fu mi ma v59 i3 v60))))))))))))) else bd (i3 + 1) (fun v63 => bd (i4 + (-1)) (fun v64 => x_pipe_19 f fu mi ma i2 v63 v64))))))))))
set_option maxRecDepth 100000 in
def x_pipe (f : Int32) (mi : Nat → Int32) (ma : Nat → Nat → Int32) : XT := bd (upd mi 73 ((-1) : Int32)) (fun m65 => bd (ma 46 f.toNatClampNeg) (fun v66 => bd (v66 - (1 : Int32)) (fun v67 => x_pipe_19 f ((v67.toInt + 2).toNat) m65 ma (0 : Int32) (0 : Int32) v67)))
set_option maxHeartbeats 4000000 in
set_option maxRecDepth 100000 in
theorem m_pipe (l : Launch) (D : va_G) (cI cJ cZ cO : ClassId) (sz : Nat) (h0 : Nat) (mq : Nat → Nat) (mi : Nat → Int32) (ma : Nat → Nat → Int32) (ph : Nat) (cl : Int) (f : Int32) (hI : MB mi ma) (hf0 : 0 ≤ f.toInt) (hf4 : f.toInt < 4) : Met l yX11_pipe (wa yX11_pipe cX11_pipe 7 (some .int)) ({ frames := 0, cells := 0, slots := 0, locals := 0 }) (va_Pc [.ref h0, .int f] (pw_s D cI cJ cZ cO sz (mw cI cZ h0 mq mi ma))) (va_Qi (fun (r : Int32) (_ : Unit) => ((True) ∧ r = (x_pipe f mi ma).2.2)) (fun (_ : Unit) (t : State) => ∃ (mi2 : Nat → Int32) (ma2 : Nat → Nat → Int32), ((MB mi2 ma2 ∧ (∀ k, k ∉ ([73] : List Nat) → mi2 k = mi k) ∧ (∀ k, k ∉ ([] : List Nat) → ma2 k = ma k) ∧ LLP (mi2 73) (ma 44 f.toNatClampNeg) (ma 72) f) ∧ mi2 = (x_pipe f mi ma).1 ∧ ma2 = (x_pipe f mi ma).2.1) ∧ pw_t D cI cJ cZ cO (va_A (mw cI cZ h0 mq mi ma) sz) (mw cI cZ h0 mq mi2 ma2) t) (va_A (mw cI cZ h0 mq mi ma) sz)) 0 0 (va_A (mw cI cZ h0 mq mi ma) sz) := by
  refine Met.ofW (cc := cX11_pipe) (maxL := 7) (ret := (some .int)) (by decide) rfl ?_
  intro p e s m args below meth c s₁ B hml hv
  obtain ⟨rfl, hsz, hP, hK, hD0, hN⟩ := hv
  have hx := B.exec
  have hb := B.bytes
  have hr := B.returns
  have hts := atoms_spec (ws := (wa yX11_pipe cX11_pipe 7 (some .int))) B.pre
  have ha : ∀ w ∈ wsL_law, w.before _ s = true := fun w h => hts w (List.mem_cons_of_mem _ h)
  have hown : s.vm.findClass RX11 = some m.cls := findClass_of_methodNamed B.named
  have hlocks := B.notSynchronized
  subst hsz
  have hD := hD0.self (sz := s.heap.size)
  generalize hAe : va_A (mw cI cZ h0 mq mi ma) s.heap.size = A at hD ⊢
  have hA : ∀ q : Nat, s.heap.size ≤ q → A q := fun q h => by rw [← hAe]; exact Or.inr h
  have hS : va_S A s.heap s.heap [] := va_S.rf
  have hP : va_P D vwCl (mw cI cZ h0 mq mi ma) s.heap := hP
  have hl := lv_entry ([.ref h0, .int f]) (n := 7) (Nat.le_of_ble_eq_true rfl)
  rw [lg_entry_eq]
  generalize (lg_sl ([.ref h0, .int f]) ++ List.replicate (7 - (lg_sl ([.ref h0, .int f])).length) Slot.unset).toArray = ls at hl ⊢
  have hl : lv_has ls 7 [(0, .ref h0), (1, .int f)] := hl
  have kc_m1 := tk_m1
  have kc_0 := tk_0
  have kc_1 := tk_1
  have kc_3 := tk_3
  have kc_200 := tk_200
  have kc_512 := tk_512
  obtain ⟨mi0, hmi0⟩ : ∃ y, y = mi := ⟨_, rfl⟩
  obtain ⟨ma0, hma0⟩ : ∃ y, y = ma := ⟨_, rfl⟩
  have hFI : ∀ k, k ∉ ([73] : List Nat) → mi k = mi0 k := fun k _ => by rw [hmi0]
  have hFA : ∀ k, k ∉ ([] : List Nat) → ma k = ma0 k := fun k _ => by rw [hma0]
  obtain ⟨QP, hQP⟩ : ∃ y : State → Prop, y = (MQ below (va_Qi (fun (r : Int32) (_ : Unit) => ((True) ∧ r = (x_pipe f mi ma).2.2)) (fun (_ : Unit) (t : State) => ∃ (mi2 : Nat → Int32) (ma2 : Nat → Nat → Int32), ((MB mi2 ma2 ∧ (∀ k, k ∉ ([73] : List Nat) → mi2 k = mi k) ∧ (∀ k, k ∉ ([] : List Nat) → ma2 k = ma k) ∧ LLP (mi2 73) (ma 44 f.toNatClampNeg) (ma 72) f) ∧ mi2 = (x_pipe f mi ma).1 ∧ ma2 = (x_pipe f mi ma).2.1) ∧ pw_t D cI cJ cZ cO A (mw cI cZ h0 mq mi2 ma2) t) A) #[(.ref h0 : Value), (.int f : Value)] s 0 0 A) := ⟨_, rfl⟩
  obtain ⟨RES, hRES⟩ : ∃ y, y = (x_pipe f mi ma) := ⟨_, rfl⟩
  have hfN : f.toNatClampNeg < 4 := in_lt (vpi_of (n := 4) hf0 (by omega))
  have hle := MB_le2n hI f.toNatClampNeg hfN
  have hlh := MB_le2h hI f.toNatClampNeg hfN
  have J_19 : ∀ (n_19 : Nat), ∀ (mi : Nat → Int32) (ma : Nat → Nat → Int32) (i2 : Int32) (i3 : Int32) (i4 : Int32) (H : Heap) (locs : List Loc), va_P D vwCl (mw cI cZ h0 mq mi ma) H → va_D A (mw cI cZ h0 mq mi ma) → va_S A s.heap H locs → MB mi ma → (∀ k, k ∉ ([73] : List Nat) → mi k = mi0 k) → (∀ k, k ∉ ([] : List Nat) → ma k = ma0 k) → RES = x_pipe_19 f n_19 mi ma i2 i3 i4 → (-1 ≤ i4.toInt ∧ i4.toInt ≤ (ma 44 f.toNatClampNeg).toInt + 199 ∧ i4.toInt ≤ 1000000 ∧ LLP (mi 73) (ma 44 f.toNatClampNeg) (ma 72) f) → ∀ (ls : Array Slot), lv_has ls 7 [(0, .ref h0), (1, .int f), (2, .int i2), (3, .int i3), (4, .int i4)] → ((i4.toInt + 1).toNat) < n_19 → W p l e ({ frames := 0, cells := 0, slots := 0, locals := 0 }) s m #[(.ref h0 : Value), (.int f : Value)] below meth c H locs 0 0 QP (F0 m 19 ls []) := by
    intro n_19
    induction n_19 with
    | zero => intros; exact absurd ‹_ < 0› (Nat.not_lt_zero _)
    | succ n_19 ih_19 =>
      intro mi ma i2 i3 i4 H locs hP hD hS hI hFI hFA hE hv ls hl hm
      have hfN : f.toNatClampNeg < 4 := in_lt (vpi_of (n := 4) hf0 (by omega))
      have hle := MB_le2n hI f.toNatClampNeg hfN
      have hlh := MB_le2h hI f.toNatClampNeg hfN
      rw [x_pipe_19] at hE
      refine lv_iload hx hb dX11_pipe_19 (lv_at hl 4 rfl) ?_
      refine lv_aload_n hx hb dX11_pipe_21 rfl (lv_at hl 0 rfl) ?_
      refine va_get (D := D) (ci := 11) (v := .ref (mq 44)) (C := RX11) (T := TX11) (N := 74) hx hb ha inlX11 hown hK hP 0 mw_at0 rfl 44 (by decide) (ha _ kf_X11_100) (fun _ h9 => h9) rfl dX11_pipe_22 ?_
      refine lv_iload_n hx hb dX11_pipe_25 rfl (lv_at hl 1 rfl) ?_
      have hin_1 : vp_in f 4 := vpi_of (by omega) (by omega)
      refine va_iald hx hb hK hP 26 0 mw_at44 rfl hin_1 dX11_pipe_26 ?_
      refine lv_topi (fun x_2 ex_2 => ?_)
      have hE := bd_at ex_2 hE
      have u_x_2 := congrArg Int32.toInt ex_2
      have r_x_2 := rg_ld (MB_una hI) hin_1 ex_2
      refine lv_icmp_lt (tgt := 158) hx hb dX11_pipe_27 (by decide) (fun c_3 => ?_) (fun c_3 => ?_)
      · have t_c_3 := Int32.lt_iff_toInt_lt.mp c_3
        have hE := hE.trans (if_pos c_3)
        refine lv_iload_n hx hb dX11_pipe_158 rfl (lv_at hl 2 rfl) ?_
        rw [hQP]
        exact W.iret (v := i2) hx hb hr (fun t ht hW => ⟨⟨i2, (), rfl, ⟨trivial, by rw [← hRES, hE]⟩, ⟨mi, ma, ⟨⟨hI, fun k hk => (hFI k hk).trans (by rw [hmi0]), fun k hk => (hFA k hk).trans (by rw [hma0]), by have hll := hv.2.2.2; rw [hFA 44 (by decide), hFA 72 (by decide), hma0] at hll; exact hll⟩, by rw [← hRES, hE], by rw [← hRES, hE]⟩, by rw [ht]; exact hP, va_K.moved hW.alike hK, hD⟩⟩, hS.F ht⟩) hS.2.2 dX11_pipe_159
      · have t_c_3 := Int32.le_iff_toInt_le.mp (Int32.not_lt.mp c_3)
        have hE := hE.trans (if_neg c_3)
        refine lv_aload_n hx hb dX11_pipe_30 rfl (lv_at hl 0 rfl) ?_
        refine va_get (D := D) (ci := 11) (v := .ref (mq 71)) (C := RX11) (T := TX11) (N := 74) hx hb ha inlX11 hown hK hP 0 mw_at0 rfl 71 (by decide) (ha _ kf_X11_181) (fun _ h9 => h9) rfl dX11_pipe_31 ?_
        refine lv_sipush (v := 200) hx hb dX11_pipe_34 (by decide) ?_
        refine lv_iload_n hx hb dX11_pipe_37 rfl (lv_at hl 1 rfl) ?_
        refine lv_imul hx hb dX11_pipe_38 ?_
        refine lv_topi (fun x_4 ex_4 => ?_)
        have hE := bd_at ex_4 hE
        try have t_x_4 := ti_mulc (k := 200) ex_4 tk_200 (by omega) (by omega)
        refine lv_iload hx hb dX11_pipe_39 (lv_at hl 4 rfl) ?_
        refine lv_iadd hx hb dX11_pipe_41 ?_
        refine lv_topi (fun x_5 ex_5 => ?_)
        have hE := bd_at ex_5 hE
        try have t_x_5 := ti_add ex_5 (by omega) (by omega)
        refine lv_aload_n hx hb dX11_pipe_42 rfl (lv_at hl 0 rfl) ?_
        refine va_get (D := D) (ci := 11) (v := .ref (mq 44)) (C := RX11) (T := TX11) (N := 74) hx hb ha inlX11 hown hK hP 0 mw_at0 rfl 44 (by decide) (ha _ kf_X11_100) (fun _ h9 => h9) rfl dX11_pipe_43 ?_
        refine lv_iload_n hx hb dX11_pipe_46 rfl (lv_at hl 1 rfl) ?_
        have hin_6 : vp_in f 4 := vpi_of (by omega) (by omega)
        refine va_iald hx hb hK hP 26 0 mw_at44 rfl hin_6 dX11_pipe_47 ?_
        refine lv_topi (fun x_7 ex_7 => ?_)
        have hE := bd_at ex_7 hE
        have u_x_7 := congrArg Int32.toInt ex_7
        have r_x_7 := rg_ld (MB_una hI) hin_6 ex_7
        refine lv_isub hx hb dX11_pipe_48 ?_
        refine lv_topi (fun x_8 ex_8 => ?_)
        have hE := bd_at ex_8 hE
        try have t_x_8 := ti_sub ex_8 (by omega) (by omega)
        have hin_9 : vp_in x_8 800 := vpi_of (by omega) (by omega)
        refine va_zald hx hb hK hP 53 2 mw_at71 rfl hin_9 dX11_pipe_49 ?_
        refine lv_topi (fun x_10 ex_10 => ?_)
        have hE := bd_at ex_10 hE
        have u_x_10 := congrArg Int32.toInt ex_10
        refine lv_if_eq (tgt := 59) hx hb dX11_pipe_50 (by decide) (fun c_11 => ?_) (fun c_11 => ?_)
        · have t_c_11 := congrArg Int32.toInt c_11
          have hE := hE.trans (if_pos c_11)
          refine lv_iload hx hb dX11_pipe_59 (lv_at hl 4 rfl) ?_
          refine lv_aload_n hx hb dX11_pipe_61 rfl (lv_at hl 0 rfl) ?_
          refine va_get (D := D) (ci := 11) (v := .ref (mq 56)) (C := RX11) (T := TX11) (N := 74) hx hb ha inlX11 hown hK hP 0 mw_at0 rfl 56 (by decide) (ha _ kf_X11_136) (fun _ h9 => h9) rfl dX11_pipe_62 ?_
          refine lv_iload_n hx hb dX11_pipe_65 rfl (lv_at hl 1 rfl) ?_
          have hin_12 : vp_in f 4 := vpi_of (by omega) (by omega)
          refine va_iald hx hb hK hP 38 0 mw_at56 rfl hin_12 dX11_pipe_66 ?_
          refine lv_topi (fun x_13 ex_13 => ?_)
          have hE := bd_at ex_13 hE
          have u_x_13 := congrArg Int32.toInt ex_13
          refine lv_icmp_eq (tgt := 75) hx hb dX11_pipe_67 (by decide) (fun c_14 => ?_) (fun c_14 => ?_)
          · have t_c_14 := congrArg Int32.toInt c_14
            have hE := hE.trans (if_pos c_14)
            refine lv_iconst (v := 1) hx hb dX11_pipe_75 (by decide) ?_
            refine lv_goto (tgt := 80) hx hb dX11_pipe_76 (by decide) ?_
            refine lv_istore (lv' := [(5, .int 1), (0, .ref h0), (1, .int f), (2, .int i2), (3, .int i3), (4, .int i4)]) hx hb dX11_pipe_80 hl (by decide) rfl (fun ls hl => ?_)
            refine lv_aload_n hx hb dX11_pipe_82 rfl (lv_at hl 1 rfl) ?_
            refine va_get (D := D) (ci := 11) (v := .ref (mq 72)) (C := RX11) (T := TX11) (N := 74) hx hb ha inlX11 hown hK hP 0 mw_at0 rfl 72 (by decide) (ha _ kf_X11_184) (fun _ h9 => h9) rfl dX11_pipe_83 ?_
            refine lv_sipush (v := 512) hx hb dX11_pipe_86 (by decide) ?_
            refine lv_iload_n hx hb dX11_pipe_89 rfl (lv_at hl 2 rfl) ?_
            refine lv_imul hx hb dX11_pipe_90 ?_
            refine lv_topi (fun x_15 ex_15 => ?_)
            have hE := bd_at ex_15 hE
            try have t_x_15 := ti_mulc (k := 512) ex_15 tk_512 (by omega) (by omega)
            refine lv_iload hx hb dX11_pipe_91 (lv_at hl 5 rfl) ?_
            refine lv_sipush (v := 512) hx hb dX11_pipe_93 (by decide) ?_
            refine lv_irem hx hb dX11_pipe_96 (by decide) ?_
            refine lv_topi (fun x_16 ex_16 => ?_)
            have hE := bd_at ex_16 hE
            have t_x_16 := ti_rem ex_16 (by omega)
            refine lv_iadd hx hb dX11_pipe_97 ?_
            refine lv_topi (fun x_17 ex_17 => ?_)
            have hE := bd_at ex_17 hE
            try have t_x_17 := ti_add ex_17 (by omega) (by omega)
            have hin_18 : vp_in x_17 2048 := vpi_of (by omega) (by omega)
            refine va_zald hx hb hK hP 54 2 mw_at72 rfl hin_18 dX11_pipe_98 ?_
            refine lv_topi (fun x_19 ex_19 => ?_)
            have hE := bd_at ex_19 hE
            have u_x_19 := congrArg Int32.toInt ex_19
            refine lv_istore (lv' := [(6, .int x_19), (5, .int 1), (0, .ref h0), (1, .int f), (2, .int i2), (3, .int i3), (4, .int i4)]) hx hb dX11_pipe_99 hl (by decide) rfl (fun ls hl => ?_)
            refine lv_iload_n hx hb dX11_pipe_101 rfl (lv_at hl 4 rfl) ?_
            refine lv_iload hx hb dX11_pipe_102 (lv_at hl 6 rfl) ?_
            refine lv_aload_n hx hb dX11_pipe_104 rfl (lv_at hl 2 rfl) ?_
            refine va_get (D := D) (ci := 11) (v := .ref (mq 45)) (C := RX11) (T := TX11) (N := 74) hx hb ha inlX11 hown hK hP 0 mw_at0 rfl 45 (by decide) (ha _ kf_X11_103) (fun _ h9 => h9) rfl dX11_pipe_105 ?_
            refine lv_iload_n hx hb dX11_pipe_108 rfl (lv_at hl 3 rfl) ?_
            have hin_20 : vp_in f 4 := vpi_of (by omega) (by omega)
            refine va_iald hx hb hK hP 27 0 mw_at45 rfl hin_20 dX11_pipe_109 ?_
            refine lv_topi (fun x_21 ex_21 => ?_)
            have hE := bd_at ex_21 hE
            have u_x_21 := congrArg Int32.toInt ex_21
            have r_x_21 := rg_ld (MB_nxt hI) hin_20 ex_21
            refine lv_icmp_ge (tgt := 122) hx hb dX11_pipe_110 (by decide) (fun c_22 => ?_) (fun c_22 => ?_)
            · have t_c_22 := Int32.le_iff_toInt_le.mp c_22
              have hE := hE.trans (if_pos c_22)
              refine lv_iconst (v := 0) hx hb dX11_pipe_122 (by decide) ?_
              refine lv_iload hx hb dX11_pipe_123 (lv_at hl 0 rfl) ?_
              refine lv_if_eq (tgt := 132) hx hb dX11_pipe_125 (by decide) (fun c_23 => ?_) (fun c_23 => ?_)
              · have t_c_23 := congrArg Int32.toInt c_23
                have hE := hE.trans (if_pos c_23)
                refine lv_iconst (v := 0) hx hb dX11_pipe_132 (by decide) ?_
                refine lv_iadd hx hb dX11_pipe_133 ?_
                refine lv_topi (fun v_24 ev_24 => ?_)
                obtain rfl : v_24 = 0 := ev_24.trans (by decide)
                refine lv_iadd hx hb dX11_pipe_134 ?_
                refine lv_topi (fun x_25 ex_25 => ?_)
                have hE := bd_at ex_25 hE
                refine lv_istore_n (lv' := [(2, .int x_25), (6, .int x_19), (5, .int 1), (0, .ref h0), (1, .int f), (3, .int i3), (4, .int i4)]) hx hb dX11_pipe_135 rfl hl (by decide) rfl (fun ls hl => ?_)
                refine lv_iload hx hb dX11_pipe_136 (lv_at hl 2 rfl) ?_
                refine lv_if_eq (tgt := 152) hx hb dX11_pipe_138 (by decide) (fun c_26 => ?_) (fun c_26 => ?_)
                · exact absurd c_26 (by decide)
                refine lv_iload hx hb dX11_pipe_141 (lv_at hl 1 rfl) ?_
                refine lv_if_ne (tgt := 152) hx hb dX11_pipe_143 (by decide) (fun c_27 => ?_) (fun c_27 => ?_)
                · have t_c_27 := mt Int32.toInt_inj.mp c_27
                  have hE := hE.trans (if_neg c_27)
                  obtain ⟨x_28, ex_28⟩ : ∃ y : Int32, y = i4 + (-1) := ⟨_, rfl⟩
                  have hE := bd_at ex_28 hE
                  refine lv_iinc (v := x_28) (lv' := [(4, .int x_28), (2, .int x_25), (6, .int x_19), (5, .int 1), (0, .ref h0), (1, .int f), (3, .int i3)]) hx hb dX11_pipe_152 hl (k := 6) rfl (by rw [ex_28]; rfl) (by decide) rfl (fun ls hl => ?_)
                  try have t_x_28 := ti_add ex_28 (by omega) (by omega)
                  refine lv_goto (tgt := 19) hx hb dX11_pipe_155 (by decide) ?_
                  exact ih_19 mi ma x_25 i3 x_28 _ _ hP hD hS hI hFI hFA hE ⟨by omega, by omega, by omega, hv.2.2.2⟩ _ (lv_sub hl [4, 5, 1, 6, 0] rfl) (by omega)
                · have t_c_27 := congrArg Int32.toInt c_27
                  have hE := hE.trans (if_pos c_27)
                  refine lv_aload_n hx hb dX11_pipe_146 rfl (lv_at hl 3 rfl) ?_
                  refine lv_iload hx hb dX11_pipe_147 (lv_at hl 6 rfl) ?_
                  refine va_put (D := D) (ci := 11) (v := .int i4) (ty := .int) (C := RX11) (T := TX11) (N := 74) hx hb ha inlX11 tyX11 tyX11_ok nmX11 hown hK hP hD hS 0 mw_at0 rfl 73 (by decide) (ha _ kf_X11_335) (fun _ h9 => h9) rfl (by decide +kernel) rfl rfl (Nat.le_of_ble_eq_true rfl) dX11_pipe_149 (fun H locs hP hD hS => ?_)
                  have hP : va_P D vwCl (mw cI cZ h0 mq (upd mi 73 i4) ma) H := mwP_73 hP
                  have hD : va_D A (mw cI cZ h0 mq (upd mi 73 i4) ma) := mwD_73 hD
                  generalize hmi_29 : upd mi 73 i4 = mi_29 at hP hD
                  have hI : MB mi_29 ma := by rw [← hmi_29]; exact MBi_leastLost hI
                  have hFI : ∀ k, k ∉ ([73] : List Nat) → mi_29 k = mi0 k := fun k hk => by rw [← hmi_29]; exact (if_neg (fun e => hk (by rw [e]; decide))).trans (hFI k hk)
                  have hE := bs_at hmi_29 hE
                  obtain ⟨x_30, ex_30⟩ : ∃ y : Int32, y = i4 + (-1) := ⟨_, rfl⟩
                  have hE := bd_at ex_30 hE
                  refine lv_iinc (v := x_30) (lv' := [(4, .int x_30), (2, .int x_25), (6, .int x_19), (5, .int 1), (0, .ref h0), (1, .int f), (3, .int i3)]) hx hb dX11_pipe_152 hl (k := 6) rfl (by rw [ex_30]; rfl) (by decide) rfl (fun ls hl => ?_)
                  try have t_x_30 := ti_add ex_30 (by omega) (by omega)
                  refine lv_goto (tgt := 19) hx hb dX11_pipe_155 (by decide) ?_
                  exact ih_19 mi_29 ma x_25 i3 x_30 _ _ hP hD hS hI hFI hFA hE ⟨by omega, by omega, by omega, by rw [← hmi_29]; show LLP i4 _ _ _; exact Or.inr ⟨by omega, by omega, by omega, by rw [← ex_15, ← ex_16, ← ex_17, ← ex_19]; exact c_27⟩⟩ _ (lv_sub hl [4, 5, 1, 6, 0] rfl) (by omega)
              · have t_c_23 := mt Int32.toInt_inj.mp c_23
                have hE := hE.trans (if_neg c_23)
                refine lv_iconst (v := 1) hx hb dX11_pipe_128 (by decide) ?_
                refine lv_goto (tgt := 133) hx hb dX11_pipe_129 (by decide) ?_
                refine lv_iadd hx hb dX11_pipe_133 ?_
                refine lv_topi (fun v_31 ev_31 => ?_)
                obtain rfl : v_31 = 1 := ev_31.trans (by decide)
                refine lv_iadd hx hb dX11_pipe_134 ?_
                refine lv_topi (fun x_32 ex_32 => ?_)
                have hE := bd_at ex_32 hE
                refine lv_istore_n (lv' := [(2, .int x_32), (6, .int x_19), (5, .int 1), (0, .ref h0), (1, .int f), (3, .int i3), (4, .int i4)]) hx hb dX11_pipe_135 rfl hl (by decide) rfl (fun ls hl => ?_)
                refine lv_iload hx hb dX11_pipe_136 (lv_at hl 2 rfl) ?_
                refine lv_if_eq (tgt := 152) hx hb dX11_pipe_138 (by decide) (fun c_33 => ?_) (fun c_33 => ?_)
                · exact absurd c_33 (by decide)
                refine lv_iload hx hb dX11_pipe_141 (lv_at hl 1 rfl) ?_
                refine lv_if_ne (tgt := 152) hx hb dX11_pipe_143 (by decide) (fun c_34 => ?_) (fun c_34 => ?_)
                · have t_c_34 := mt Int32.toInt_inj.mp c_34
                  have hE := hE.trans (if_neg c_34)
                  obtain ⟨x_35, ex_35⟩ : ∃ y : Int32, y = i4 + (-1) := ⟨_, rfl⟩
                  have hE := bd_at ex_35 hE
                  refine lv_iinc (v := x_35) (lv' := [(4, .int x_35), (2, .int x_32), (6, .int x_19), (5, .int 1), (0, .ref h0), (1, .int f), (3, .int i3)]) hx hb dX11_pipe_152 hl (k := 6) rfl (by rw [ex_35]; rfl) (by decide) rfl (fun ls hl => ?_)
                  try have t_x_35 := ti_add ex_35 (by omega) (by omega)
                  refine lv_goto (tgt := 19) hx hb dX11_pipe_155 (by decide) ?_
                  exact ih_19 mi ma x_32 i3 x_35 _ _ hP hD hS hI hFI hFA hE ⟨by omega, by omega, by omega, hv.2.2.2⟩ _ (lv_sub hl [4, 5, 1, 6, 0] rfl) (by omega)
                · have t_c_34 := congrArg Int32.toInt c_34
                  have hE := hE.trans (if_pos c_34)
                  refine lv_aload_n hx hb dX11_pipe_146 rfl (lv_at hl 3 rfl) ?_
                  refine lv_iload hx hb dX11_pipe_147 (lv_at hl 6 rfl) ?_
                  refine va_put (D := D) (ci := 11) (v := .int i4) (ty := .int) (C := RX11) (T := TX11) (N := 74) hx hb ha inlX11 tyX11 tyX11_ok nmX11 hown hK hP hD hS 0 mw_at0 rfl 73 (by decide) (ha _ kf_X11_335) (fun _ h9 => h9) rfl (by decide +kernel) rfl rfl (Nat.le_of_ble_eq_true rfl) dX11_pipe_149 (fun H locs hP hD hS => ?_)
                  have hP : va_P D vwCl (mw cI cZ h0 mq (upd mi 73 i4) ma) H := mwP_73 hP
                  have hD : va_D A (mw cI cZ h0 mq (upd mi 73 i4) ma) := mwD_73 hD
                  generalize hmi_36 : upd mi 73 i4 = mi_36 at hP hD
                  have hI : MB mi_36 ma := by rw [← hmi_36]; exact MBi_leastLost hI
                  have hFI : ∀ k, k ∉ ([73] : List Nat) → mi_36 k = mi0 k := fun k hk => by rw [← hmi_36]; exact (if_neg (fun e => hk (by rw [e]; decide))).trans (hFI k hk)
                  have hE := bs_at hmi_36 hE
                  obtain ⟨x_37, ex_37⟩ : ∃ y : Int32, y = i4 + (-1) := ⟨_, rfl⟩
                  have hE := bd_at ex_37 hE
                  refine lv_iinc (v := x_37) (lv' := [(4, .int x_37), (2, .int x_32), (6, .int x_19), (5, .int 1), (0, .ref h0), (1, .int f), (3, .int i3)]) hx hb dX11_pipe_152 hl (k := 6) rfl (by rw [ex_37]; rfl) (by decide) rfl (fun ls hl => ?_)
                  try have t_x_37 := ti_add ex_37 (by omega) (by omega)
                  refine lv_goto (tgt := 19) hx hb dX11_pipe_155 (by decide) ?_
                  exact ih_19 mi_36 ma x_32 i3 x_37 _ _ hP hD hS hI hFI hFA hE ⟨by omega, by omega, by omega, by rw [← hmi_36]; show LLP i4 _ _ _; exact Or.inr ⟨by omega, by omega, by omega, by rw [← ex_15, ← ex_16, ← ex_17, ← ex_19]; exact c_34⟩⟩ _ (lv_sub hl [4, 5, 1, 6, 0] rfl) (by omega)
            · have t_c_22 := Int32.lt_iff_toInt_lt.mp (Int32.not_le.mp c_22)
              have hE := hE.trans (if_neg c_22)
              refine lv_iload hx hb dX11_pipe_113 (lv_at hl 1 rfl) ?_
              refine lv_if_ne (tgt := 122) hx hb dX11_pipe_115 (by decide) (fun c_38 => ?_) (fun c_38 => ?_)
              rotate_left
              · exact absurd c_38 (by decide)
              refine lv_iconst (v := 0) hx hb dX11_pipe_122 (by decide) ?_
              refine lv_iload hx hb dX11_pipe_123 (lv_at hl 0 rfl) ?_
              refine lv_if_eq (tgt := 132) hx hb dX11_pipe_125 (by decide) (fun c_39 => ?_) (fun c_39 => ?_)
              · have t_c_39 := congrArg Int32.toInt c_39
                have hE := hE.trans (if_pos c_39)
                refine lv_iconst (v := 0) hx hb dX11_pipe_132 (by decide) ?_
                refine lv_iadd hx hb dX11_pipe_133 ?_
                refine lv_topi (fun v_40 ev_40 => ?_)
                obtain rfl : v_40 = 0 := ev_40.trans (by decide)
                refine lv_iadd hx hb dX11_pipe_134 ?_
                refine lv_topi (fun x_41 ex_41 => ?_)
                have hE := bd_at ex_41 hE
                refine lv_istore_n (lv' := [(2, .int x_41), (6, .int x_19), (5, .int 1), (0, .ref h0), (1, .int f), (3, .int i3), (4, .int i4)]) hx hb dX11_pipe_135 rfl hl (by decide) rfl (fun ls hl => ?_)
                refine lv_iload hx hb dX11_pipe_136 (lv_at hl 2 rfl) ?_
                refine lv_if_eq (tgt := 152) hx hb dX11_pipe_138 (by decide) (fun c_42 => ?_) (fun c_42 => ?_)
                · exact absurd c_42 (by decide)
                refine lv_iload hx hb dX11_pipe_141 (lv_at hl 1 rfl) ?_
                refine lv_if_ne (tgt := 152) hx hb dX11_pipe_143 (by decide) (fun c_43 => ?_) (fun c_43 => ?_)
                · have t_c_43 := mt Int32.toInt_inj.mp c_43
                  have hE := hE.trans (if_neg c_43)
                  obtain ⟨x_44, ex_44⟩ : ∃ y : Int32, y = i4 + (-1) := ⟨_, rfl⟩
                  have hE := bd_at ex_44 hE
                  refine lv_iinc (v := x_44) (lv' := [(4, .int x_44), (2, .int x_41), (6, .int x_19), (5, .int 1), (0, .ref h0), (1, .int f), (3, .int i3)]) hx hb dX11_pipe_152 hl (k := 6) rfl (by rw [ex_44]; rfl) (by decide) rfl (fun ls hl => ?_)
                  try have t_x_44 := ti_add ex_44 (by omega) (by omega)
                  refine lv_goto (tgt := 19) hx hb dX11_pipe_155 (by decide) ?_
                  exact ih_19 mi ma x_41 i3 x_44 _ _ hP hD hS hI hFI hFA hE ⟨by omega, by omega, by omega, hv.2.2.2⟩ _ (lv_sub hl [4, 5, 1, 6, 0] rfl) (by omega)
                · have t_c_43 := congrArg Int32.toInt c_43
                  have hE := hE.trans (if_pos c_43)
                  refine lv_aload_n hx hb dX11_pipe_146 rfl (lv_at hl 3 rfl) ?_
                  refine lv_iload hx hb dX11_pipe_147 (lv_at hl 6 rfl) ?_
                  refine va_put (D := D) (ci := 11) (v := .int i4) (ty := .int) (C := RX11) (T := TX11) (N := 74) hx hb ha inlX11 tyX11 tyX11_ok nmX11 hown hK hP hD hS 0 mw_at0 rfl 73 (by decide) (ha _ kf_X11_335) (fun _ h9 => h9) rfl (by decide +kernel) rfl rfl (Nat.le_of_ble_eq_true rfl) dX11_pipe_149 (fun H locs hP hD hS => ?_)
                  have hP : va_P D vwCl (mw cI cZ h0 mq (upd mi 73 i4) ma) H := mwP_73 hP
                  have hD : va_D A (mw cI cZ h0 mq (upd mi 73 i4) ma) := mwD_73 hD
                  generalize hmi_45 : upd mi 73 i4 = mi_45 at hP hD
                  have hI : MB mi_45 ma := by rw [← hmi_45]; exact MBi_leastLost hI
                  have hFI : ∀ k, k ∉ ([73] : List Nat) → mi_45 k = mi0 k := fun k hk => by rw [← hmi_45]; exact (if_neg (fun e => hk (by rw [e]; decide))).trans (hFI k hk)
                  have hE := bs_at hmi_45 hE
                  obtain ⟨x_46, ex_46⟩ : ∃ y : Int32, y = i4 + (-1) := ⟨_, rfl⟩
                  have hE := bd_at ex_46 hE
                  refine lv_iinc (v := x_46) (lv' := [(4, .int x_46), (2, .int x_41), (6, .int x_19), (5, .int 1), (0, .ref h0), (1, .int f), (3, .int i3)]) hx hb dX11_pipe_152 hl (k := 6) rfl (by rw [ex_46]; rfl) (by decide) rfl (fun ls hl => ?_)
                  try have t_x_46 := ti_add ex_46 (by omega) (by omega)
                  refine lv_goto (tgt := 19) hx hb dX11_pipe_155 (by decide) ?_
                  exact ih_19 mi_45 ma x_41 i3 x_46 _ _ hP hD hS hI hFI hFA hE ⟨by omega, by omega, by omega, by rw [← hmi_45]; show LLP i4 _ _ _; exact Or.inr ⟨by omega, by omega, by omega, by rw [← ex_15, ← ex_16, ← ex_17, ← ex_19]; exact c_43⟩⟩ _ (lv_sub hl [4, 5, 1, 6, 0] rfl) (by omega)
              · have t_c_39 := mt Int32.toInt_inj.mp c_39
                have hE := hE.trans (if_neg c_39)
                refine lv_iconst (v := 1) hx hb dX11_pipe_128 (by decide) ?_
                refine lv_goto (tgt := 133) hx hb dX11_pipe_129 (by decide) ?_
                refine lv_iadd hx hb dX11_pipe_133 ?_
                refine lv_topi (fun v_47 ev_47 => ?_)
                obtain rfl : v_47 = 1 := ev_47.trans (by decide)
                refine lv_iadd hx hb dX11_pipe_134 ?_
                refine lv_topi (fun x_48 ex_48 => ?_)
                have hE := bd_at ex_48 hE
                refine lv_istore_n (lv' := [(2, .int x_48), (6, .int x_19), (5, .int 1), (0, .ref h0), (1, .int f), (3, .int i3), (4, .int i4)]) hx hb dX11_pipe_135 rfl hl (by decide) rfl (fun ls hl => ?_)
                refine lv_iload hx hb dX11_pipe_136 (lv_at hl 2 rfl) ?_
                refine lv_if_eq (tgt := 152) hx hb dX11_pipe_138 (by decide) (fun c_49 => ?_) (fun c_49 => ?_)
                · exact absurd c_49 (by decide)
                refine lv_iload hx hb dX11_pipe_141 (lv_at hl 1 rfl) ?_
                refine lv_if_ne (tgt := 152) hx hb dX11_pipe_143 (by decide) (fun c_50 => ?_) (fun c_50 => ?_)
                · have t_c_50 := mt Int32.toInt_inj.mp c_50
                  have hE := hE.trans (if_neg c_50)
                  obtain ⟨x_51, ex_51⟩ : ∃ y : Int32, y = i4 + (-1) := ⟨_, rfl⟩
                  have hE := bd_at ex_51 hE
                  refine lv_iinc (v := x_51) (lv' := [(4, .int x_51), (2, .int x_48), (6, .int x_19), (5, .int 1), (0, .ref h0), (1, .int f), (3, .int i3)]) hx hb dX11_pipe_152 hl (k := 6) rfl (by rw [ex_51]; rfl) (by decide) rfl (fun ls hl => ?_)
                  try have t_x_51 := ti_add ex_51 (by omega) (by omega)
                  refine lv_goto (tgt := 19) hx hb dX11_pipe_155 (by decide) ?_
                  exact ih_19 mi ma x_48 i3 x_51 _ _ hP hD hS hI hFI hFA hE ⟨by omega, by omega, by omega, hv.2.2.2⟩ _ (lv_sub hl [4, 5, 1, 6, 0] rfl) (by omega)
                · have t_c_50 := congrArg Int32.toInt c_50
                  have hE := hE.trans (if_pos c_50)
                  refine lv_aload_n hx hb dX11_pipe_146 rfl (lv_at hl 3 rfl) ?_
                  refine lv_iload hx hb dX11_pipe_147 (lv_at hl 6 rfl) ?_
                  refine va_put (D := D) (ci := 11) (v := .int i4) (ty := .int) (C := RX11) (T := TX11) (N := 74) hx hb ha inlX11 tyX11 tyX11_ok nmX11 hown hK hP hD hS 0 mw_at0 rfl 73 (by decide) (ha _ kf_X11_335) (fun _ h9 => h9) rfl (by decide +kernel) rfl rfl (Nat.le_of_ble_eq_true rfl) dX11_pipe_149 (fun H locs hP hD hS => ?_)
                  have hP : va_P D vwCl (mw cI cZ h0 mq (upd mi 73 i4) ma) H := mwP_73 hP
                  have hD : va_D A (mw cI cZ h0 mq (upd mi 73 i4) ma) := mwD_73 hD
                  generalize hmi_52 : upd mi 73 i4 = mi_52 at hP hD
                  have hI : MB mi_52 ma := by rw [← hmi_52]; exact MBi_leastLost hI
                  have hFI : ∀ k, k ∉ ([73] : List Nat) → mi_52 k = mi0 k := fun k hk => by rw [← hmi_52]; exact (if_neg (fun e => hk (by rw [e]; decide))).trans (hFI k hk)
                  have hE := bs_at hmi_52 hE
                  obtain ⟨x_53, ex_53⟩ : ∃ y : Int32, y = i4 + (-1) := ⟨_, rfl⟩
                  have hE := bd_at ex_53 hE
                  refine lv_iinc (v := x_53) (lv' := [(4, .int x_53), (2, .int x_48), (6, .int x_19), (5, .int 1), (0, .ref h0), (1, .int f), (3, .int i3)]) hx hb dX11_pipe_152 hl (k := 6) rfl (by rw [ex_53]; rfl) (by decide) rfl (fun ls hl => ?_)
                  try have t_x_53 := ti_add ex_53 (by omega) (by omega)
                  refine lv_goto (tgt := 19) hx hb dX11_pipe_155 (by decide) ?_
                  exact ih_19 mi_52 ma x_48 i3 x_53 _ _ hP hD hS hI hFI hFA hE ⟨by omega, by omega, by omega, by rw [← hmi_52]; show LLP i4 _ _ _; exact Or.inr ⟨by omega, by omega, by omega, by rw [← ex_15, ← ex_16, ← ex_17, ← ex_19]; exact c_50⟩⟩ _ (lv_sub hl [4, 5, 1, 6, 0] rfl) (by omega)
          · have t_c_14 := mt Int32.toInt_inj.mp c_14
            have hE := hE.trans (if_neg c_14)
            refine lv_iload_n hx hb dX11_pipe_70 rfl (lv_at hl 3 rfl) ?_
            refine lv_iconst (v := 3) hx hb dX11_pipe_71 (by decide) ?_
            refine lv_icmp_lt (tgt := 79) hx hb dX11_pipe_72 (by decide) (fun c_54 => ?_) (fun c_54 => ?_)
            · have t_c_54 := Int32.lt_iff_toInt_lt.mp c_54
              have hE := hE.trans (if_pos c_54)
              refine lv_iconst (v := 0) hx hb dX11_pipe_79 (by decide) ?_
              refine lv_istore (lv' := [(5, .int 0), (0, .ref h0), (1, .int f), (2, .int i2), (3, .int i3), (4, .int i4)]) hx hb dX11_pipe_80 hl (by decide) rfl (fun ls hl => ?_)
              refine lv_aload_n hx hb dX11_pipe_82 rfl (lv_at hl 1 rfl) ?_
              refine va_get (D := D) (ci := 11) (v := .ref (mq 72)) (C := RX11) (T := TX11) (N := 74) hx hb ha inlX11 hown hK hP 0 mw_at0 rfl 72 (by decide) (ha _ kf_X11_184) (fun _ h9 => h9) rfl dX11_pipe_83 ?_
              refine lv_sipush (v := 512) hx hb dX11_pipe_86 (by decide) ?_
              refine lv_iload_n hx hb dX11_pipe_89 rfl (lv_at hl 2 rfl) ?_
              refine lv_imul hx hb dX11_pipe_90 ?_
              refine lv_topi (fun x_55 ex_55 => ?_)
              have hE := bd_at ex_55 hE
              try have t_x_55 := ti_mulc (k := 512) ex_55 tk_512 (by omega) (by omega)
              refine lv_iload hx hb dX11_pipe_91 (lv_at hl 5 rfl) ?_
              refine lv_sipush (v := 512) hx hb dX11_pipe_93 (by decide) ?_
              refine lv_irem hx hb dX11_pipe_96 (by decide) ?_
              refine lv_topi (fun x_56 ex_56 => ?_)
              have hE := bd_at ex_56 hE
              have t_x_56 := ti_rem ex_56 (by omega)
              refine lv_iadd hx hb dX11_pipe_97 ?_
              refine lv_topi (fun x_57 ex_57 => ?_)
              have hE := bd_at ex_57 hE
              try have t_x_57 := ti_add ex_57 (by omega) (by omega)
              have hin_58 : vp_in x_57 2048 := vpi_of (by omega) (by omega)
              refine va_zald hx hb hK hP 54 2 mw_at72 rfl hin_58 dX11_pipe_98 ?_
              refine lv_topi (fun x_59 ex_59 => ?_)
              have hE := bd_at ex_59 hE
              have u_x_59 := congrArg Int32.toInt ex_59
              refine lv_istore (lv' := [(6, .int x_59), (5, .int 0), (0, .ref h0), (1, .int f), (2, .int i2), (3, .int i3), (4, .int i4)]) hx hb dX11_pipe_99 hl (by decide) rfl (fun ls hl => ?_)
              refine lv_iload_n hx hb dX11_pipe_101 rfl (lv_at hl 4 rfl) ?_
              refine lv_iload hx hb dX11_pipe_102 (lv_at hl 6 rfl) ?_
              refine lv_aload_n hx hb dX11_pipe_104 rfl (lv_at hl 2 rfl) ?_
              refine va_get (D := D) (ci := 11) (v := .ref (mq 45)) (C := RX11) (T := TX11) (N := 74) hx hb ha inlX11 hown hK hP 0 mw_at0 rfl 45 (by decide) (ha _ kf_X11_103) (fun _ h9 => h9) rfl dX11_pipe_105 ?_
              refine lv_iload_n hx hb dX11_pipe_108 rfl (lv_at hl 3 rfl) ?_
              have hin_60 : vp_in f 4 := vpi_of (by omega) (by omega)
              refine va_iald hx hb hK hP 27 0 mw_at45 rfl hin_60 dX11_pipe_109 ?_
              refine lv_topi (fun x_61 ex_61 => ?_)
              have hE := bd_at ex_61 hE
              have u_x_61 := congrArg Int32.toInt ex_61
              have r_x_61 := rg_ld (MB_nxt hI) hin_60 ex_61
              refine lv_icmp_ge (tgt := 122) hx hb dX11_pipe_110 (by decide) (fun c_62 => ?_) (fun c_62 => ?_)
              · have t_c_62 := Int32.le_iff_toInt_le.mp c_62
                have hE := hE.trans (if_pos c_62)
                refine lv_iconst (v := 0) hx hb dX11_pipe_122 (by decide) ?_
                refine lv_iload hx hb dX11_pipe_123 (lv_at hl 0 rfl) ?_
                refine lv_if_eq (tgt := 132) hx hb dX11_pipe_125 (by decide) (fun c_63 => ?_) (fun c_63 => ?_)
                · have t_c_63 := congrArg Int32.toInt c_63
                  have hE := hE.trans (if_pos c_63)
                  refine lv_iconst (v := 0) hx hb dX11_pipe_132 (by decide) ?_
                  refine lv_iadd hx hb dX11_pipe_133 ?_
                  refine lv_topi (fun v_64 ev_64 => ?_)
                  obtain rfl : v_64 = 0 := ev_64.trans (by decide)
                  refine lv_iadd hx hb dX11_pipe_134 ?_
                  refine lv_topi (fun x_65 ex_65 => ?_)
                  have hE := bd_at ex_65 hE
                  refine lv_istore_n (lv' := [(2, .int x_65), (6, .int x_59), (5, .int 0), (0, .ref h0), (1, .int f), (3, .int i3), (4, .int i4)]) hx hb dX11_pipe_135 rfl hl (by decide) rfl (fun ls hl => ?_)
                  refine lv_iload hx hb dX11_pipe_136 (lv_at hl 2 rfl) ?_
                  refine lv_if_eq (tgt := 152) hx hb dX11_pipe_138 (by decide) (fun c_66 => ?_) (fun c_66 => ?_)
                  rotate_left
                  · exact absurd (by decide) c_66
                  obtain ⟨x_67, ex_67⟩ : ∃ y : Int32, y = i4 + (-1) := ⟨_, rfl⟩
                  have hE := bd_at ex_67 hE
                  refine lv_iinc (v := x_67) (lv' := [(4, .int x_67), (2, .int x_65), (6, .int x_59), (5, .int 0), (0, .ref h0), (1, .int f), (3, .int i3)]) hx hb dX11_pipe_152 hl (k := 6) rfl (by rw [ex_67]; rfl) (by decide) rfl (fun ls hl => ?_)
                  try have t_x_67 := ti_add ex_67 (by omega) (by omega)
                  refine lv_goto (tgt := 19) hx hb dX11_pipe_155 (by decide) ?_
                  exact ih_19 mi ma x_65 i3 x_67 _ _ hP hD hS hI hFI hFA hE ⟨by omega, by omega, by omega, hv.2.2.2⟩ _ (lv_sub hl [4, 5, 1, 6, 0] rfl) (by omega)
                · have t_c_63 := mt Int32.toInt_inj.mp c_63
                  have hE := hE.trans (if_neg c_63)
                  refine lv_iconst (v := 1) hx hb dX11_pipe_128 (by decide) ?_
                  refine lv_goto (tgt := 133) hx hb dX11_pipe_129 (by decide) ?_
                  refine lv_iadd hx hb dX11_pipe_133 ?_
                  refine lv_topi (fun v_68 ev_68 => ?_)
                  obtain rfl : v_68 = 1 := ev_68.trans (by decide)
                  refine lv_iadd hx hb dX11_pipe_134 ?_
                  refine lv_topi (fun x_69 ex_69 => ?_)
                  have hE := bd_at ex_69 hE
                  refine lv_istore_n (lv' := [(2, .int x_69), (6, .int x_59), (5, .int 0), (0, .ref h0), (1, .int f), (3, .int i3), (4, .int i4)]) hx hb dX11_pipe_135 rfl hl (by decide) rfl (fun ls hl => ?_)
                  refine lv_iload hx hb dX11_pipe_136 (lv_at hl 2 rfl) ?_
                  refine lv_if_eq (tgt := 152) hx hb dX11_pipe_138 (by decide) (fun c_70 => ?_) (fun c_70 => ?_)
                  rotate_left
                  · exact absurd (by decide) c_70
                  obtain ⟨x_71, ex_71⟩ : ∃ y : Int32, y = i4 + (-1) := ⟨_, rfl⟩
                  have hE := bd_at ex_71 hE
                  refine lv_iinc (v := x_71) (lv' := [(4, .int x_71), (2, .int x_69), (6, .int x_59), (5, .int 0), (0, .ref h0), (1, .int f), (3, .int i3)]) hx hb dX11_pipe_152 hl (k := 6) rfl (by rw [ex_71]; rfl) (by decide) rfl (fun ls hl => ?_)
                  try have t_x_71 := ti_add ex_71 (by omega) (by omega)
                  refine lv_goto (tgt := 19) hx hb dX11_pipe_155 (by decide) ?_
                  exact ih_19 mi ma x_69 i3 x_71 _ _ hP hD hS hI hFI hFA hE ⟨by omega, by omega, by omega, hv.2.2.2⟩ _ (lv_sub hl [4, 5, 1, 6, 0] rfl) (by omega)
              · have t_c_62 := Int32.lt_iff_toInt_lt.mp (Int32.not_le.mp c_62)
                have hE := hE.trans (if_neg c_62)
                refine lv_iload hx hb dX11_pipe_113 (lv_at hl 1 rfl) ?_
                refine lv_if_ne (tgt := 122) hx hb dX11_pipe_115 (by decide) (fun c_72 => ?_) (fun c_72 => ?_)
                · exact absurd (by decide) c_72
                refine lv_iconst (v := 1) hx hb dX11_pipe_118 (by decide) ?_
                refine lv_goto (tgt := 123) hx hb dX11_pipe_119 (by decide) ?_
                refine lv_iload hx hb dX11_pipe_123 (lv_at hl 0 rfl) ?_
                refine lv_if_eq (tgt := 132) hx hb dX11_pipe_125 (by decide) (fun c_73 => ?_) (fun c_73 => ?_)
                · have t_c_73 := congrArg Int32.toInt c_73
                  have hE := hE.trans (if_pos c_73)
                  refine lv_iconst (v := 0) hx hb dX11_pipe_132 (by decide) ?_
                  refine lv_iadd hx hb dX11_pipe_133 ?_
                  refine lv_topi (fun v_74 ev_74 => ?_)
                  obtain rfl : v_74 = 1 := ev_74.trans (by decide)
                  refine lv_iadd hx hb dX11_pipe_134 ?_
                  refine lv_topi (fun x_75 ex_75 => ?_)
                  have hE := bd_at ex_75 hE
                  refine lv_istore_n (lv' := [(2, .int x_75), (6, .int x_59), (5, .int 0), (0, .ref h0), (1, .int f), (3, .int i3), (4, .int i4)]) hx hb dX11_pipe_135 rfl hl (by decide) rfl (fun ls hl => ?_)
                  refine lv_iload hx hb dX11_pipe_136 (lv_at hl 2 rfl) ?_
                  refine lv_if_eq (tgt := 152) hx hb dX11_pipe_138 (by decide) (fun c_76 => ?_) (fun c_76 => ?_)
                  rotate_left
                  · exact absurd (by decide) c_76
                  obtain ⟨x_77, ex_77⟩ : ∃ y : Int32, y = i4 + (-1) := ⟨_, rfl⟩
                  have hE := bd_at ex_77 hE
                  refine lv_iinc (v := x_77) (lv' := [(4, .int x_77), (2, .int x_75), (6, .int x_59), (5, .int 0), (0, .ref h0), (1, .int f), (3, .int i3)]) hx hb dX11_pipe_152 hl (k := 6) rfl (by rw [ex_77]; rfl) (by decide) rfl (fun ls hl => ?_)
                  try have t_x_77 := ti_add ex_77 (by omega) (by omega)
                  refine lv_goto (tgt := 19) hx hb dX11_pipe_155 (by decide) ?_
                  exact ih_19 mi ma x_75 i3 x_77 _ _ hP hD hS hI hFI hFA hE ⟨by omega, by omega, by omega, hv.2.2.2⟩ _ (lv_sub hl [4, 5, 1, 6, 0] rfl) (by omega)
                · have t_c_73 := mt Int32.toInt_inj.mp c_73
                  have hE := hE.trans (if_neg c_73)
                  refine lv_iconst (v := 1) hx hb dX11_pipe_128 (by decide) ?_
                  refine lv_goto (tgt := 133) hx hb dX11_pipe_129 (by decide) ?_
                  refine lv_iadd hx hb dX11_pipe_133 ?_
                  refine lv_topi (fun v_78 ev_78 => ?_)
                  obtain rfl : v_78 = 2 := ev_78.trans (by decide)
                  refine lv_iadd hx hb dX11_pipe_134 ?_
                  refine lv_topi (fun x_79 ex_79 => ?_)
                  have hE := bd_at ex_79 hE
                  refine lv_istore_n (lv' := [(2, .int x_79), (6, .int x_59), (5, .int 0), (0, .ref h0), (1, .int f), (3, .int i3), (4, .int i4)]) hx hb dX11_pipe_135 rfl hl (by decide) rfl (fun ls hl => ?_)
                  refine lv_iload hx hb dX11_pipe_136 (lv_at hl 2 rfl) ?_
                  refine lv_if_eq (tgt := 152) hx hb dX11_pipe_138 (by decide) (fun c_80 => ?_) (fun c_80 => ?_)
                  rotate_left
                  · exact absurd (by decide) c_80
                  obtain ⟨x_81, ex_81⟩ : ∃ y : Int32, y = i4 + (-1) := ⟨_, rfl⟩
                  have hE := bd_at ex_81 hE
                  refine lv_iinc (v := x_81) (lv' := [(4, .int x_81), (2, .int x_79), (6, .int x_59), (5, .int 0), (0, .ref h0), (1, .int f), (3, .int i3)]) hx hb dX11_pipe_152 hl (k := 6) rfl (by rw [ex_81]; rfl) (by decide) rfl (fun ls hl => ?_)
                  try have t_x_81 := ti_add ex_81 (by omega) (by omega)
                  refine lv_goto (tgt := 19) hx hb dX11_pipe_155 (by decide) ?_
                  exact ih_19 mi ma x_79 i3 x_81 _ _ hP hD hS hI hFI hFA hE ⟨by omega, by omega, by omega, hv.2.2.2⟩ _ (lv_sub hl [4, 5, 1, 6, 0] rfl) (by omega)
            · have t_c_54 := Int32.le_iff_toInt_le.mp (Int32.not_lt.mp c_54)
              have hE := hE.trans (if_neg c_54)
              refine lv_iconst (v := 1) hx hb dX11_pipe_75 (by decide) ?_
              refine lv_goto (tgt := 80) hx hb dX11_pipe_76 (by decide) ?_
              refine lv_istore (lv' := [(5, .int 1), (0, .ref h0), (1, .int f), (2, .int i2), (3, .int i3), (4, .int i4)]) hx hb dX11_pipe_80 hl (by decide) rfl (fun ls hl => ?_)
              refine lv_aload_n hx hb dX11_pipe_82 rfl (lv_at hl 1 rfl) ?_
              refine va_get (D := D) (ci := 11) (v := .ref (mq 72)) (C := RX11) (T := TX11) (N := 74) hx hb ha inlX11 hown hK hP 0 mw_at0 rfl 72 (by decide) (ha _ kf_X11_184) (fun _ h9 => h9) rfl dX11_pipe_83 ?_
              refine lv_sipush (v := 512) hx hb dX11_pipe_86 (by decide) ?_
              refine lv_iload_n hx hb dX11_pipe_89 rfl (lv_at hl 2 rfl) ?_
              refine lv_imul hx hb dX11_pipe_90 ?_
              refine lv_topi (fun x_82 ex_82 => ?_)
              have hE := bd_at ex_82 hE
              try have t_x_82 := ti_mulc (k := 512) ex_82 tk_512 (by omega) (by omega)
              refine lv_iload hx hb dX11_pipe_91 (lv_at hl 5 rfl) ?_
              refine lv_sipush (v := 512) hx hb dX11_pipe_93 (by decide) ?_
              refine lv_irem hx hb dX11_pipe_96 (by decide) ?_
              refine lv_topi (fun x_83 ex_83 => ?_)
              have hE := bd_at ex_83 hE
              have t_x_83 := ti_rem ex_83 (by omega)
              refine lv_iadd hx hb dX11_pipe_97 ?_
              refine lv_topi (fun x_84 ex_84 => ?_)
              have hE := bd_at ex_84 hE
              try have t_x_84 := ti_add ex_84 (by omega) (by omega)
              have hin_85 : vp_in x_84 2048 := vpi_of (by omega) (by omega)
              refine va_zald hx hb hK hP 54 2 mw_at72 rfl hin_85 dX11_pipe_98 ?_
              refine lv_topi (fun x_86 ex_86 => ?_)
              have hE := bd_at ex_86 hE
              have u_x_86 := congrArg Int32.toInt ex_86
              refine lv_istore (lv' := [(6, .int x_86), (5, .int 1), (0, .ref h0), (1, .int f), (2, .int i2), (3, .int i3), (4, .int i4)]) hx hb dX11_pipe_99 hl (by decide) rfl (fun ls hl => ?_)
              refine lv_iload_n hx hb dX11_pipe_101 rfl (lv_at hl 4 rfl) ?_
              refine lv_iload hx hb dX11_pipe_102 (lv_at hl 6 rfl) ?_
              refine lv_aload_n hx hb dX11_pipe_104 rfl (lv_at hl 2 rfl) ?_
              refine va_get (D := D) (ci := 11) (v := .ref (mq 45)) (C := RX11) (T := TX11) (N := 74) hx hb ha inlX11 hown hK hP 0 mw_at0 rfl 45 (by decide) (ha _ kf_X11_103) (fun _ h9 => h9) rfl dX11_pipe_105 ?_
              refine lv_iload_n hx hb dX11_pipe_108 rfl (lv_at hl 3 rfl) ?_
              have hin_87 : vp_in f 4 := vpi_of (by omega) (by omega)
              refine va_iald hx hb hK hP 27 0 mw_at45 rfl hin_87 dX11_pipe_109 ?_
              refine lv_topi (fun x_88 ex_88 => ?_)
              have hE := bd_at ex_88 hE
              have u_x_88 := congrArg Int32.toInt ex_88
              have r_x_88 := rg_ld (MB_nxt hI) hin_87 ex_88
              refine lv_icmp_ge (tgt := 122) hx hb dX11_pipe_110 (by decide) (fun c_89 => ?_) (fun c_89 => ?_)
              · have t_c_89 := Int32.le_iff_toInt_le.mp c_89
                have hE := hE.trans (if_pos c_89)
                refine lv_iconst (v := 0) hx hb dX11_pipe_122 (by decide) ?_
                refine lv_iload hx hb dX11_pipe_123 (lv_at hl 0 rfl) ?_
                refine lv_if_eq (tgt := 132) hx hb dX11_pipe_125 (by decide) (fun c_90 => ?_) (fun c_90 => ?_)
                · have t_c_90 := congrArg Int32.toInt c_90
                  have hE := hE.trans (if_pos c_90)
                  refine lv_iconst (v := 0) hx hb dX11_pipe_132 (by decide) ?_
                  refine lv_iadd hx hb dX11_pipe_133 ?_
                  refine lv_topi (fun v_91 ev_91 => ?_)
                  obtain rfl : v_91 = 0 := ev_91.trans (by decide)
                  refine lv_iadd hx hb dX11_pipe_134 ?_
                  refine lv_topi (fun x_92 ex_92 => ?_)
                  have hE := bd_at ex_92 hE
                  refine lv_istore_n (lv' := [(2, .int x_92), (6, .int x_86), (5, .int 1), (0, .ref h0), (1, .int f), (3, .int i3), (4, .int i4)]) hx hb dX11_pipe_135 rfl hl (by decide) rfl (fun ls hl => ?_)
                  refine lv_iload hx hb dX11_pipe_136 (lv_at hl 2 rfl) ?_
                  refine lv_if_eq (tgt := 152) hx hb dX11_pipe_138 (by decide) (fun c_93 => ?_) (fun c_93 => ?_)
                  · exact absurd c_93 (by decide)
                  refine lv_iload hx hb dX11_pipe_141 (lv_at hl 1 rfl) ?_
                  refine lv_if_ne (tgt := 152) hx hb dX11_pipe_143 (by decide) (fun c_94 => ?_) (fun c_94 => ?_)
                  · have t_c_94 := mt Int32.toInt_inj.mp c_94
                    have hE := hE.trans (if_neg c_94)
                    obtain ⟨x_95, ex_95⟩ : ∃ y : Int32, y = i4 + (-1) := ⟨_, rfl⟩
                    have hE := bd_at ex_95 hE
                    refine lv_iinc (v := x_95) (lv' := [(4, .int x_95), (2, .int x_92), (6, .int x_86), (5, .int 1), (0, .ref h0), (1, .int f), (3, .int i3)]) hx hb dX11_pipe_152 hl (k := 6) rfl (by rw [ex_95]; rfl) (by decide) rfl (fun ls hl => ?_)
                    try have t_x_95 := ti_add ex_95 (by omega) (by omega)
                    refine lv_goto (tgt := 19) hx hb dX11_pipe_155 (by decide) ?_
                    exact ih_19 mi ma x_92 i3 x_95 _ _ hP hD hS hI hFI hFA hE ⟨by omega, by omega, by omega, hv.2.2.2⟩ _ (lv_sub hl [4, 5, 1, 6, 0] rfl) (by omega)
                  · have t_c_94 := congrArg Int32.toInt c_94
                    have hE := hE.trans (if_pos c_94)
                    refine lv_aload_n hx hb dX11_pipe_146 rfl (lv_at hl 3 rfl) ?_
                    refine lv_iload hx hb dX11_pipe_147 (lv_at hl 6 rfl) ?_
                    refine va_put (D := D) (ci := 11) (v := .int i4) (ty := .int) (C := RX11) (T := TX11) (N := 74) hx hb ha inlX11 tyX11 tyX11_ok nmX11 hown hK hP hD hS 0 mw_at0 rfl 73 (by decide) (ha _ kf_X11_335) (fun _ h9 => h9) rfl (by decide +kernel) rfl rfl (Nat.le_of_ble_eq_true rfl) dX11_pipe_149 (fun H locs hP hD hS => ?_)
                    have hP : va_P D vwCl (mw cI cZ h0 mq (upd mi 73 i4) ma) H := mwP_73 hP
                    have hD : va_D A (mw cI cZ h0 mq (upd mi 73 i4) ma) := mwD_73 hD
                    generalize hmi_96 : upd mi 73 i4 = mi_96 at hP hD
                    have hI : MB mi_96 ma := by rw [← hmi_96]; exact MBi_leastLost hI
                    have hFI : ∀ k, k ∉ ([73] : List Nat) → mi_96 k = mi0 k := fun k hk => by rw [← hmi_96]; exact (if_neg (fun e => hk (by rw [e]; decide))).trans (hFI k hk)
                    have hE := bs_at hmi_96 hE
                    obtain ⟨x_97, ex_97⟩ : ∃ y : Int32, y = i4 + (-1) := ⟨_, rfl⟩
                    have hE := bd_at ex_97 hE
                    refine lv_iinc (v := x_97) (lv' := [(4, .int x_97), (2, .int x_92), (6, .int x_86), (5, .int 1), (0, .ref h0), (1, .int f), (3, .int i3)]) hx hb dX11_pipe_152 hl (k := 6) rfl (by rw [ex_97]; rfl) (by decide) rfl (fun ls hl => ?_)
                    try have t_x_97 := ti_add ex_97 (by omega) (by omega)
                    refine lv_goto (tgt := 19) hx hb dX11_pipe_155 (by decide) ?_
                    exact ih_19 mi_96 ma x_92 i3 x_97 _ _ hP hD hS hI hFI hFA hE ⟨by omega, by omega, by omega, by rw [← hmi_96]; show LLP i4 _ _ _; exact Or.inr ⟨by omega, by omega, by omega, by rw [← ex_82, ← ex_83, ← ex_84, ← ex_86]; exact c_94⟩⟩ _ (lv_sub hl [4, 5, 1, 6, 0] rfl) (by omega)
                · have t_c_90 := mt Int32.toInt_inj.mp c_90
                  have hE := hE.trans (if_neg c_90)
                  refine lv_iconst (v := 1) hx hb dX11_pipe_128 (by decide) ?_
                  refine lv_goto (tgt := 133) hx hb dX11_pipe_129 (by decide) ?_
                  refine lv_iadd hx hb dX11_pipe_133 ?_
                  refine lv_topi (fun v_98 ev_98 => ?_)
                  obtain rfl : v_98 = 1 := ev_98.trans (by decide)
                  refine lv_iadd hx hb dX11_pipe_134 ?_
                  refine lv_topi (fun x_99 ex_99 => ?_)
                  have hE := bd_at ex_99 hE
                  refine lv_istore_n (lv' := [(2, .int x_99), (6, .int x_86), (5, .int 1), (0, .ref h0), (1, .int f), (3, .int i3), (4, .int i4)]) hx hb dX11_pipe_135 rfl hl (by decide) rfl (fun ls hl => ?_)
                  refine lv_iload hx hb dX11_pipe_136 (lv_at hl 2 rfl) ?_
                  refine lv_if_eq (tgt := 152) hx hb dX11_pipe_138 (by decide) (fun c_100 => ?_) (fun c_100 => ?_)
                  · exact absurd c_100 (by decide)
                  refine lv_iload hx hb dX11_pipe_141 (lv_at hl 1 rfl) ?_
                  refine lv_if_ne (tgt := 152) hx hb dX11_pipe_143 (by decide) (fun c_101 => ?_) (fun c_101 => ?_)
                  · have t_c_101 := mt Int32.toInt_inj.mp c_101
                    have hE := hE.trans (if_neg c_101)
                    obtain ⟨x_102, ex_102⟩ : ∃ y : Int32, y = i4 + (-1) := ⟨_, rfl⟩
                    have hE := bd_at ex_102 hE
                    refine lv_iinc (v := x_102) (lv' := [(4, .int x_102), (2, .int x_99), (6, .int x_86), (5, .int 1), (0, .ref h0), (1, .int f), (3, .int i3)]) hx hb dX11_pipe_152 hl (k := 6) rfl (by rw [ex_102]; rfl) (by decide) rfl (fun ls hl => ?_)
                    try have t_x_102 := ti_add ex_102 (by omega) (by omega)
                    refine lv_goto (tgt := 19) hx hb dX11_pipe_155 (by decide) ?_
                    exact ih_19 mi ma x_99 i3 x_102 _ _ hP hD hS hI hFI hFA hE ⟨by omega, by omega, by omega, hv.2.2.2⟩ _ (lv_sub hl [4, 5, 1, 6, 0] rfl) (by omega)
                  · have t_c_101 := congrArg Int32.toInt c_101
                    have hE := hE.trans (if_pos c_101)
                    refine lv_aload_n hx hb dX11_pipe_146 rfl (lv_at hl 3 rfl) ?_
                    refine lv_iload hx hb dX11_pipe_147 (lv_at hl 6 rfl) ?_
                    refine va_put (D := D) (ci := 11) (v := .int i4) (ty := .int) (C := RX11) (T := TX11) (N := 74) hx hb ha inlX11 tyX11 tyX11_ok nmX11 hown hK hP hD hS 0 mw_at0 rfl 73 (by decide) (ha _ kf_X11_335) (fun _ h9 => h9) rfl (by decide +kernel) rfl rfl (Nat.le_of_ble_eq_true rfl) dX11_pipe_149 (fun H locs hP hD hS => ?_)
                    have hP : va_P D vwCl (mw cI cZ h0 mq (upd mi 73 i4) ma) H := mwP_73 hP
                    have hD : va_D A (mw cI cZ h0 mq (upd mi 73 i4) ma) := mwD_73 hD
                    generalize hmi_103 : upd mi 73 i4 = mi_103 at hP hD
                    have hI : MB mi_103 ma := by rw [← hmi_103]; exact MBi_leastLost hI
                    have hFI : ∀ k, k ∉ ([73] : List Nat) → mi_103 k = mi0 k := fun k hk => by rw [← hmi_103]; exact (if_neg (fun e => hk (by rw [e]; decide))).trans (hFI k hk)
                    have hE := bs_at hmi_103 hE
                    obtain ⟨x_104, ex_104⟩ : ∃ y : Int32, y = i4 + (-1) := ⟨_, rfl⟩
                    have hE := bd_at ex_104 hE
                    refine lv_iinc (v := x_104) (lv' := [(4, .int x_104), (2, .int x_99), (6, .int x_86), (5, .int 1), (0, .ref h0), (1, .int f), (3, .int i3)]) hx hb dX11_pipe_152 hl (k := 6) rfl (by rw [ex_104]; rfl) (by decide) rfl (fun ls hl => ?_)
                    try have t_x_104 := ti_add ex_104 (by omega) (by omega)
                    refine lv_goto (tgt := 19) hx hb dX11_pipe_155 (by decide) ?_
                    exact ih_19 mi_103 ma x_99 i3 x_104 _ _ hP hD hS hI hFI hFA hE ⟨by omega, by omega, by omega, by rw [← hmi_103]; show LLP i4 _ _ _; exact Or.inr ⟨by omega, by omega, by omega, by rw [← ex_82, ← ex_83, ← ex_84, ← ex_86]; exact c_101⟩⟩ _ (lv_sub hl [4, 5, 1, 6, 0] rfl) (by omega)
              · have t_c_89 := Int32.lt_iff_toInt_lt.mp (Int32.not_le.mp c_89)
                have hE := hE.trans (if_neg c_89)
                refine lv_iload hx hb dX11_pipe_113 (lv_at hl 1 rfl) ?_
                refine lv_if_ne (tgt := 122) hx hb dX11_pipe_115 (by decide) (fun c_105 => ?_) (fun c_105 => ?_)
                rotate_left
                · exact absurd c_105 (by decide)
                refine lv_iconst (v := 0) hx hb dX11_pipe_122 (by decide) ?_
                refine lv_iload hx hb dX11_pipe_123 (lv_at hl 0 rfl) ?_
                refine lv_if_eq (tgt := 132) hx hb dX11_pipe_125 (by decide) (fun c_106 => ?_) (fun c_106 => ?_)
                · have t_c_106 := congrArg Int32.toInt c_106
                  have hE := hE.trans (if_pos c_106)
                  refine lv_iconst (v := 0) hx hb dX11_pipe_132 (by decide) ?_
                  refine lv_iadd hx hb dX11_pipe_133 ?_
                  refine lv_topi (fun v_107 ev_107 => ?_)
                  obtain rfl : v_107 = 0 := ev_107.trans (by decide)
                  refine lv_iadd hx hb dX11_pipe_134 ?_
                  refine lv_topi (fun x_108 ex_108 => ?_)
                  have hE := bd_at ex_108 hE
                  refine lv_istore_n (lv' := [(2, .int x_108), (6, .int x_86), (5, .int 1), (0, .ref h0), (1, .int f), (3, .int i3), (4, .int i4)]) hx hb dX11_pipe_135 rfl hl (by decide) rfl (fun ls hl => ?_)
                  refine lv_iload hx hb dX11_pipe_136 (lv_at hl 2 rfl) ?_
                  refine lv_if_eq (tgt := 152) hx hb dX11_pipe_138 (by decide) (fun c_109 => ?_) (fun c_109 => ?_)
                  · exact absurd c_109 (by decide)
                  refine lv_iload hx hb dX11_pipe_141 (lv_at hl 1 rfl) ?_
                  refine lv_if_ne (tgt := 152) hx hb dX11_pipe_143 (by decide) (fun c_110 => ?_) (fun c_110 => ?_)
                  · have t_c_110 := mt Int32.toInt_inj.mp c_110
                    have hE := hE.trans (if_neg c_110)
                    obtain ⟨x_111, ex_111⟩ : ∃ y : Int32, y = i4 + (-1) := ⟨_, rfl⟩
                    have hE := bd_at ex_111 hE
                    refine lv_iinc (v := x_111) (lv' := [(4, .int x_111), (2, .int x_108), (6, .int x_86), (5, .int 1), (0, .ref h0), (1, .int f), (3, .int i3)]) hx hb dX11_pipe_152 hl (k := 6) rfl (by rw [ex_111]; rfl) (by decide) rfl (fun ls hl => ?_)
                    try have t_x_111 := ti_add ex_111 (by omega) (by omega)
                    refine lv_goto (tgt := 19) hx hb dX11_pipe_155 (by decide) ?_
                    exact ih_19 mi ma x_108 i3 x_111 _ _ hP hD hS hI hFI hFA hE ⟨by omega, by omega, by omega, hv.2.2.2⟩ _ (lv_sub hl [4, 5, 1, 6, 0] rfl) (by omega)
                  · have t_c_110 := congrArg Int32.toInt c_110
                    have hE := hE.trans (if_pos c_110)
                    refine lv_aload_n hx hb dX11_pipe_146 rfl (lv_at hl 3 rfl) ?_
                    refine lv_iload hx hb dX11_pipe_147 (lv_at hl 6 rfl) ?_
                    refine va_put (D := D) (ci := 11) (v := .int i4) (ty := .int) (C := RX11) (T := TX11) (N := 74) hx hb ha inlX11 tyX11 tyX11_ok nmX11 hown hK hP hD hS 0 mw_at0 rfl 73 (by decide) (ha _ kf_X11_335) (fun _ h9 => h9) rfl (by decide +kernel) rfl rfl (Nat.le_of_ble_eq_true rfl) dX11_pipe_149 (fun H locs hP hD hS => ?_)
                    have hP : va_P D vwCl (mw cI cZ h0 mq (upd mi 73 i4) ma) H := mwP_73 hP
                    have hD : va_D A (mw cI cZ h0 mq (upd mi 73 i4) ma) := mwD_73 hD
                    generalize hmi_112 : upd mi 73 i4 = mi_112 at hP hD
                    have hI : MB mi_112 ma := by rw [← hmi_112]; exact MBi_leastLost hI
                    have hFI : ∀ k, k ∉ ([73] : List Nat) → mi_112 k = mi0 k := fun k hk => by rw [← hmi_112]; exact (if_neg (fun e => hk (by rw [e]; decide))).trans (hFI k hk)
                    have hE := bs_at hmi_112 hE
                    obtain ⟨x_113, ex_113⟩ : ∃ y : Int32, y = i4 + (-1) := ⟨_, rfl⟩
                    have hE := bd_at ex_113 hE
                    refine lv_iinc (v := x_113) (lv' := [(4, .int x_113), (2, .int x_108), (6, .int x_86), (5, .int 1), (0, .ref h0), (1, .int f), (3, .int i3)]) hx hb dX11_pipe_152 hl (k := 6) rfl (by rw [ex_113]; rfl) (by decide) rfl (fun ls hl => ?_)
                    try have t_x_113 := ti_add ex_113 (by omega) (by omega)
                    refine lv_goto (tgt := 19) hx hb dX11_pipe_155 (by decide) ?_
                    exact ih_19 mi_112 ma x_108 i3 x_113 _ _ hP hD hS hI hFI hFA hE ⟨by omega, by omega, by omega, by rw [← hmi_112]; show LLP i4 _ _ _; exact Or.inr ⟨by omega, by omega, by omega, by rw [← ex_82, ← ex_83, ← ex_84, ← ex_86]; exact c_110⟩⟩ _ (lv_sub hl [4, 5, 1, 6, 0] rfl) (by omega)
                · have t_c_106 := mt Int32.toInt_inj.mp c_106
                  have hE := hE.trans (if_neg c_106)
                  refine lv_iconst (v := 1) hx hb dX11_pipe_128 (by decide) ?_
                  refine lv_goto (tgt := 133) hx hb dX11_pipe_129 (by decide) ?_
                  refine lv_iadd hx hb dX11_pipe_133 ?_
                  refine lv_topi (fun v_114 ev_114 => ?_)
                  obtain rfl : v_114 = 1 := ev_114.trans (by decide)
                  refine lv_iadd hx hb dX11_pipe_134 ?_
                  refine lv_topi (fun x_115 ex_115 => ?_)
                  have hE := bd_at ex_115 hE
                  refine lv_istore_n (lv' := [(2, .int x_115), (6, .int x_86), (5, .int 1), (0, .ref h0), (1, .int f), (3, .int i3), (4, .int i4)]) hx hb dX11_pipe_135 rfl hl (by decide) rfl (fun ls hl => ?_)
                  refine lv_iload hx hb dX11_pipe_136 (lv_at hl 2 rfl) ?_
                  refine lv_if_eq (tgt := 152) hx hb dX11_pipe_138 (by decide) (fun c_116 => ?_) (fun c_116 => ?_)
                  · exact absurd c_116 (by decide)
                  refine lv_iload hx hb dX11_pipe_141 (lv_at hl 1 rfl) ?_
                  refine lv_if_ne (tgt := 152) hx hb dX11_pipe_143 (by decide) (fun c_117 => ?_) (fun c_117 => ?_)
                  · have t_c_117 := mt Int32.toInt_inj.mp c_117
                    have hE := hE.trans (if_neg c_117)
                    obtain ⟨x_118, ex_118⟩ : ∃ y : Int32, y = i4 + (-1) := ⟨_, rfl⟩
                    have hE := bd_at ex_118 hE
                    refine lv_iinc (v := x_118) (lv' := [(4, .int x_118), (2, .int x_115), (6, .int x_86), (5, .int 1), (0, .ref h0), (1, .int f), (3, .int i3)]) hx hb dX11_pipe_152 hl (k := 6) rfl (by rw [ex_118]; rfl) (by decide) rfl (fun ls hl => ?_)
                    try have t_x_118 := ti_add ex_118 (by omega) (by omega)
                    refine lv_goto (tgt := 19) hx hb dX11_pipe_155 (by decide) ?_
                    exact ih_19 mi ma x_115 i3 x_118 _ _ hP hD hS hI hFI hFA hE ⟨by omega, by omega, by omega, hv.2.2.2⟩ _ (lv_sub hl [4, 5, 1, 6, 0] rfl) (by omega)
                  · have t_c_117 := congrArg Int32.toInt c_117
                    have hE := hE.trans (if_pos c_117)
                    refine lv_aload_n hx hb dX11_pipe_146 rfl (lv_at hl 3 rfl) ?_
                    refine lv_iload hx hb dX11_pipe_147 (lv_at hl 6 rfl) ?_
                    refine va_put (D := D) (ci := 11) (v := .int i4) (ty := .int) (C := RX11) (T := TX11) (N := 74) hx hb ha inlX11 tyX11 tyX11_ok nmX11 hown hK hP hD hS 0 mw_at0 rfl 73 (by decide) (ha _ kf_X11_335) (fun _ h9 => h9) rfl (by decide +kernel) rfl rfl (Nat.le_of_ble_eq_true rfl) dX11_pipe_149 (fun H locs hP hD hS => ?_)
                    have hP : va_P D vwCl (mw cI cZ h0 mq (upd mi 73 i4) ma) H := mwP_73 hP
                    have hD : va_D A (mw cI cZ h0 mq (upd mi 73 i4) ma) := mwD_73 hD
                    generalize hmi_119 : upd mi 73 i4 = mi_119 at hP hD
                    have hI : MB mi_119 ma := by rw [← hmi_119]; exact MBi_leastLost hI
                    have hFI : ∀ k, k ∉ ([73] : List Nat) → mi_119 k = mi0 k := fun k hk => by rw [← hmi_119]; exact (if_neg (fun e => hk (by rw [e]; decide))).trans (hFI k hk)
                    have hE := bs_at hmi_119 hE
                    obtain ⟨x_120, ex_120⟩ : ∃ y : Int32, y = i4 + (-1) := ⟨_, rfl⟩
                    have hE := bd_at ex_120 hE
                    refine lv_iinc (v := x_120) (lv' := [(4, .int x_120), (2, .int x_115), (6, .int x_86), (5, .int 1), (0, .ref h0), (1, .int f), (3, .int i3)]) hx hb dX11_pipe_152 hl (k := 6) rfl (by rw [ex_120]; rfl) (by decide) rfl (fun ls hl => ?_)
                    try have t_x_120 := ti_add ex_120 (by omega) (by omega)
                    refine lv_goto (tgt := 19) hx hb dX11_pipe_155 (by decide) ?_
                    exact ih_19 mi_119 ma x_115 i3 x_120 _ _ hP hD hS hI hFI hFA hE ⟨by omega, by omega, by omega, by rw [← hmi_119]; show LLP i4 _ _ _; exact Or.inr ⟨by omega, by omega, by omega, by rw [← ex_82, ← ex_83, ← ex_84, ← ex_86]; exact c_117⟩⟩ _ (lv_sub hl [4, 5, 1, 6, 0] rfl) (by omega)
        · have t_c_11 := mt Int32.toInt_inj.mp c_11
          have hE := hE.trans (if_neg c_11)
          obtain ⟨x_121, ex_121⟩ : ∃ y : Int32, y = i3 + 1 := ⟨_, rfl⟩
          have hE := bd_at ex_121 hE
          refine lv_iinc (v := x_121) (lv' := [(3, .int x_121), (0, .ref h0), (1, .int f), (2, .int i2), (4, .int i4)]) hx hb dX11_pipe_53 hl (k := 3) rfl (by rw [ex_121]; rfl) (by decide) rfl (fun ls hl => ?_)
          try have t_x_121 := ti_add ex_121 (by omega) (by omega)
          refine lv_goto (tgt := 152) hx hb dX11_pipe_56 (by decide) ?_
          obtain ⟨x_122, ex_122⟩ : ∃ y : Int32, y = i4 + (-1) := ⟨_, rfl⟩
          have hE := bd_at ex_122 hE
          refine lv_iinc (v := x_122) (lv' := [(4, .int x_122), (3, .int x_121), (0, .ref h0), (1, .int f), (2, .int i2)]) hx hb dX11_pipe_152 hl (k := 4) rfl (by rw [ex_122]; rfl) (by decide) rfl (fun ls hl => ?_)
          try have t_x_122 := ti_add ex_122 (by omega) (by omega)
          refine lv_goto (tgt := 19) hx hb dX11_pipe_155 (by decide) ?_
          exact ih_19 mi ma i2 x_121 x_122 _ _ hP hD hS hI hFI hFA hE ⟨by omega, by omega, by omega, hv.2.2.2⟩ _ (lv_sub hl [2, 3, 4, 1, 0] rfl) (by omega)
  -- from the entry
  rw [hQP] at J_19
  have hE := hRES
  unfold x_pipe at hE
  refine lv_iconst (v := 0) hx hb dX11_pipe_0 (by decide) ?_
  refine lv_istore_n (lv' := [(2, .int 0), (0, .ref h0), (1, .int f)]) hx hb dX11_pipe_1 rfl hl (by decide) rfl (fun ls hl => ?_)
  refine lv_iconst (v := 0) hx hb dX11_pipe_2 (by decide) ?_
  refine lv_istore_n (lv' := [(3, .int 0), (2, .int 0), (0, .ref h0), (1, .int f)]) hx hb dX11_pipe_3 rfl hl (by decide) rfl (fun ls hl => ?_)
  refine lv_aload_n hx hb dX11_pipe_4 rfl (lv_at hl 2 rfl) ?_
  refine lv_iconst (v := (-1)) hx hb dX11_pipe_5 (by decide) ?_
  refine va_put (D := D) (ci := 11) (v := .int (-1)) (ty := .int) (C := RX11) (T := TX11) (N := 74) hx hb ha inlX11 tyX11 tyX11_ok nmX11 hown hK hP hD hS 0 mw_at0 rfl 73 (by decide) (ha _ kf_X11_335) (fun _ h9 => h9) rfl (by decide +kernel) rfl rfl (Nat.le_of_ble_eq_true rfl) dX11_pipe_6 (fun H locs hP hD hS => ?_)
  have hP : va_P D vwCl (mw cI cZ h0 mq (upd mi 73 ((-1) : Int32)) ma) H := mwP_73 hP
  have hD : va_D A (mw cI cZ h0 mq (upd mi 73 ((-1) : Int32)) ma) := mwD_73 hD
  generalize hmi_123 : upd mi 73 ((-1) : Int32) = mi_123 at hP hD
  have hI : MB mi_123 ma := by rw [← hmi_123]; exact MBi_leastLost hI
  have hFI : ∀ k, k ∉ ([73] : List Nat) → mi_123 k = mi0 k := fun k hk => by rw [← hmi_123]; exact (if_neg (fun e => hk (by rw [e]; decide))).trans (hFI k hk)
  have hE := bs_at hmi_123 hE
  refine lv_aload_n hx hb dX11_pipe_9 rfl (lv_at hl 2 rfl) ?_
  refine va_get (D := D) (ci := 11) (v := .ref (mq 46)) (C := RX11) (T := TX11) (N := 74) hx hb ha inlX11 hown hK hP 0 mw_at0 rfl 46 (by decide) (ha _ kf_X11_106) (fun _ h9 => h9) rfl dX11_pipe_10 ?_
  refine lv_iload_n hx hb dX11_pipe_13 rfl (lv_at hl 3 rfl) ?_
  have hin_124 : vp_in f 4 := vpi_of (by omega) (by omega)
  refine va_iald hx hb hK hP 28 0 mw_at46 rfl hin_124 dX11_pipe_14 ?_
  refine lv_topi (fun x_125 ex_125 => ?_)
  have hE := bd_at ex_125 hE
  have u_x_125 := congrArg Int32.toInt ex_125
  have r_x_125 := rg_ld (MB_high hI) hin_124 ex_125
  refine lv_iconst (v := 1) hx hb dX11_pipe_15 (by decide) ?_
  refine lv_isub hx hb dX11_pipe_16 ?_
  refine lv_topi (fun x_126 ex_126 => ?_)
  have hE := bd_at ex_126 hE
  try have t_x_126 := ti_sub ex_126 (by omega) (by omega)
  refine lv_istore (lv' := [(4, .int x_126), (3, .int 0), (2, .int 0), (0, .ref h0), (1, .int f)]) hx hb dX11_pipe_17 hl (by decide) rfl (fun ls hl => ?_)
  exact J_19 (x_126.toInt + 2).toNat mi_123 ma (0 : Int32) (0 : Int32) x_126 _ _ hP hD hS hI hFI hFA hE ⟨by omega, by omega, by omega, by rw [← hmi_123]; exact Or.inl rfl⟩ _ (lv_sub hl [3, 4, 2, 1, 0] rfl) (by omega)

set_option maxRecDepth 100000 in
def x_out (f : Int32) (mi : Nat → Int32) (ma : Nat → Nat → Int32) : XT := bd (ma 42 f.toNatClampNeg) (fun v1 => (if v1 = (3 : Int32) then bd (ma 54 f.toNatClampNeg) (fun v5 => (if v5 = (0 : Int32) then bd (ma 45 f.toNatClampNeg) (fun v6 => bd (ma 44 f.toNatClampNeg) (fun v7 => bd (v6 - v7) (fun v8 => (mi, ma, v8)))) else bc (x_pipe f mi ma) (fun m9 a10 v11 => (m9, a10, v11)))) else bd (ma 45 f.toNatClampNeg) (fun v2 => bd (ma 44 f.toNatClampNeg) (fun v3 => bd (v2 - v3) (fun v4 => (mi, ma, v4))))))
set_option maxHeartbeats 4000000 in
set_option maxRecDepth 100000 in
theorem m_out (l : Launch) (D : va_G) (cI cJ cZ cO : ClassId) (sz : Nat) (h0 : Nat) (mq : Nat → Nat) (mi : Nat → Int32) (ma : Nat → Nat → Int32) (ph : Nat) (cl : Int) (f : Int32) (hI : MB mi ma) (hf0 : 0 ≤ f.toInt) (hf4 : f.toInt < 4) : Met l yX11_out (wa yX11_out cX11_out 2 (some .int)) ({ frames := 1, cells := 0, slots := 0, locals := 26 }) (va_Pc [.ref h0, .int f] (pw_s D cI cJ cZ cO sz (mw cI cZ h0 mq mi ma))) (va_Qi (fun (r : Int32) (_ : Unit) => ((True) ∧ r = (x_out f mi ma).2.2)) (fun (_ : Unit) (t : State) => ∃ (mi2 : Nat → Int32) (ma2 : Nat → Nat → Int32), ((MB mi2 ma2 ∧ (∀ k, k ∉ ([73] : List Nat) → mi2 k = mi k) ∧ (∀ k, k ∉ ([] : List Nat) → ma2 k = ma k) ∧ (ma 42 f.toNatClampNeg = 3 → ¬ ma 54 f.toNatClampNeg = 0 → LLP (mi2 73) (ma 44 f.toNatClampNeg) (ma 72) f)) ∧ mi2 = (x_out f mi ma).1 ∧ ma2 = (x_out f mi ma).2.1) ∧ pw_t D cI cJ cZ cO (va_A (mw cI cZ h0 mq mi ma) sz) (mw cI cZ h0 mq mi2 ma2) t) (va_A (mw cI cZ h0 mq mi ma) sz)) 0 0 (va_A (mw cI cZ h0 mq mi ma) sz) := by
  refine Met.ofW (cc := cX11_out) (maxL := 2) (ret := (some .int)) (by decide) rfl ?_
  intro p e s m args below meth c s₁ B hml hv
  obtain ⟨rfl, hsz, hP, hK, hD0, hN⟩ := hv
  have hx := B.exec
  have hb := B.bytes
  have hr := B.returns
  have hts := atoms_spec (ws := (wa yX11_out cX11_out 2 (some .int))) B.pre
  have ha : ∀ w ∈ wsL_law, w.before _ s = true := fun w h => hts w (List.mem_cons_of_mem _ h)
  have hown : s.vm.findClass RX11 = some m.cls := findClass_of_methodNamed B.named
  have hlocks := B.notSynchronized
  subst hsz
  have hD := hD0.self (sz := s.heap.size)
  generalize hAe : va_A (mw cI cZ h0 mq mi ma) s.heap.size = A at hD ⊢
  have hA : ∀ q : Nat, s.heap.size ≤ q → A q := fun q h => by rw [← hAe]; exact Or.inr h
  have hS : va_S A s.heap s.heap [] := va_S.rf
  have hP : va_P D vwCl (mw cI cZ h0 mq mi ma) s.heap := hP
  have hl := lv_entry ([.ref h0, .int f]) (n := 2) (Nat.le_of_ble_eq_true rfl)
  rw [lg_entry_eq]
  generalize (lg_sl ([.ref h0, .int f]) ++ List.replicate (2 - (lg_sl ([.ref h0, .int f])).length) Slot.unset).toArray = ls at hl ⊢
  have hl : lv_has ls 2 [(0, .ref h0), (1, .int f)] := hl
  have kc_m1 := tk_m1
  have kc_0 := tk_0
  have kc_1 := tk_1
  have kc_3 := tk_3
  obtain ⟨mi0, hmi0⟩ : ∃ y, y = mi := ⟨_, rfl⟩
  obtain ⟨ma0, hma0⟩ : ∃ y, y = ma := ⟨_, rfl⟩
  have hFI : ∀ k, k ∉ ([73] : List Nat) → mi k = mi0 k := fun k _ => by rw [hmi0]
  have hFA : ∀ k, k ∉ ([] : List Nat) → ma k = ma0 k := fun k _ => by rw [hma0]
  obtain ⟨QP, hQP⟩ : ∃ y : State → Prop, y = (MQ below (va_Qi (fun (r : Int32) (_ : Unit) => ((True) ∧ r = (x_out f mi ma).2.2)) (fun (_ : Unit) (t : State) => ∃ (mi2 : Nat → Int32) (ma2 : Nat → Nat → Int32), ((MB mi2 ma2 ∧ (∀ k, k ∉ ([73] : List Nat) → mi2 k = mi k) ∧ (∀ k, k ∉ ([] : List Nat) → ma2 k = ma k) ∧ (ma 42 f.toNatClampNeg = 3 → ¬ ma 54 f.toNatClampNeg = 0 → LLP (mi2 73) (ma 44 f.toNatClampNeg) (ma 72) f)) ∧ mi2 = (x_out f mi ma).1 ∧ ma2 = (x_out f mi ma).2.1) ∧ pw_t D cI cJ cZ cO A (mw cI cZ h0 mq mi2 ma2) t) A) #[(.ref h0 : Value), (.int f : Value)] s 0 0 A) := ⟨_, rfl⟩
  obtain ⟨RES, hRES⟩ : ∃ y, y = (x_out f mi ma) := ⟨_, rfl⟩
  have hfN : f.toNatClampNeg < 4 := in_lt (vpi_of (n := 4) hf0 (by omega))
  have hle := MB_le2n hI f.toNatClampNeg hfN
  have hlh := MB_le2h hI f.toNatClampNeg hfN
  -- from the entry
  have hE := hRES
  unfold x_out at hE
  refine lv_aload_n hx hb dX11_out_0 rfl (lv_at hl 0 rfl) ?_
  refine va_get (D := D) (ci := 11) (v := .ref (mq 42)) (C := RX11) (T := TX11) (N := 74) hx hb ha inlX11 hown hK hP 0 mw_at0 rfl 42 (by decide) (ha _ kf_X11_94) (fun _ h9 => h9) rfl dX11_out_1 ?_
  refine lv_iload_n hx hb dX11_out_4 rfl (lv_at hl 1 rfl) ?_
  have hin_1 : vp_in f 4 := vpi_of (by omega) (by omega)
  refine va_iald hx hb hK hP 24 0 mw_at42 rfl hin_1 dX11_out_5 ?_
  refine lv_topi (fun x_2 ex_2 => ?_)
  have hE := bd_at ex_2 hE
  have u_x_2 := congrArg Int32.toInt ex_2
  refine lv_iconst (v := 3) hx hb dX11_out_6 (by decide) ?_
  refine lv_icmp_ne (tgt := 27) hx hb dX11_out_7 (by decide) (fun c_3 => ?_) (fun c_3 => ?_)
  · have t_c_3 := mt Int32.toInt_inj.mp c_3
    have hE := hE.trans (if_neg c_3)
    refine lv_aload_n hx hb dX11_out_27 rfl (lv_at hl 0 rfl) ?_
    refine va_get (D := D) (ci := 11) (v := .ref (mq 45)) (C := RX11) (T := TX11) (N := 74) hx hb ha inlX11 hown hK hP 0 mw_at0 rfl 45 (by decide) (ha _ kf_X11_103) (fun _ h9 => h9) rfl dX11_out_28 ?_
    refine lv_iload_n hx hb dX11_out_31 rfl (lv_at hl 1 rfl) ?_
    have hin_4 : vp_in f 4 := vpi_of (by omega) (by omega)
    refine va_iald hx hb hK hP 27 0 mw_at45 rfl hin_4 dX11_out_32 ?_
    refine lv_topi (fun x_5 ex_5 => ?_)
    have hE := bd_at ex_5 hE
    have u_x_5 := congrArg Int32.toInt ex_5
    have r_x_5 := rg_ld (MB_nxt hI) hin_4 ex_5
    refine lv_aload_n hx hb dX11_out_33 rfl (lv_at hl 0 rfl) ?_
    refine va_get (D := D) (ci := 11) (v := .ref (mq 44)) (C := RX11) (T := TX11) (N := 74) hx hb ha inlX11 hown hK hP 0 mw_at0 rfl 44 (by decide) (ha _ kf_X11_100) (fun _ h9 => h9) rfl dX11_out_34 ?_
    refine lv_iload_n hx hb dX11_out_37 rfl (lv_at hl 1 rfl) ?_
    have hin_6 : vp_in f 4 := vpi_of (by omega) (by omega)
    refine va_iald hx hb hK hP 26 0 mw_at44 rfl hin_6 dX11_out_38 ?_
    refine lv_topi (fun x_7 ex_7 => ?_)
    have hE := bd_at ex_7 hE
    have u_x_7 := congrArg Int32.toInt ex_7
    have r_x_7 := rg_ld (MB_una hI) hin_6 ex_7
    refine lv_isub hx hb dX11_out_39 ?_
    refine lv_topi (fun x_8 ex_8 => ?_)
    have hE := bd_at ex_8 hE
    try have t_x_8 := ti_sub ex_8 (by omega) (by omega)
    exact W.iret (v := x_8) hx hb hr (fun t ht hW => ⟨⟨x_8, (), rfl, ⟨trivial, by rw [← hRES, hE]⟩, ⟨mi, ma, ⟨⟨hI, fun k hk => (hFI k hk).trans (by rw [hmi0]), fun k hk => (hFA k hk).trans (by rw [hma0]), fun h9 _ => absurd (ex_2.trans h9) c_3⟩, by rw [← hRES, hE], by rw [← hRES, hE]⟩, by rw [ht]; exact hP, va_K.moved hW.alike hK, hD⟩⟩, hS.F ht⟩) hS.2.2 dX11_out_40
  · have t_c_3 := congrArg Int32.toInt c_3
    have hE := hE.trans (if_pos c_3)
    refine lv_aload_n hx hb dX11_out_10 rfl (lv_at hl 0 rfl) ?_
    refine va_get (D := D) (ci := 11) (v := .ref (mq 54)) (C := RX11) (T := TX11) (N := 74) hx hb ha inlX11 hown hK hP 0 mw_at0 rfl 54 (by decide) (ha _ kf_X11_130) (fun _ h9 => h9) rfl dX11_out_11 ?_
    refine lv_iload_n hx hb dX11_out_14 rfl (lv_at hl 1 rfl) ?_
    have hin_9 : vp_in f 4 := vpi_of (by omega) (by omega)
    refine va_zald hx hb hK hP 36 2 mw_at54 rfl hin_9 dX11_out_15 ?_
    refine lv_topi (fun x_10 ex_10 => ?_)
    have hE := bd_at ex_10 hE
    have u_x_10 := congrArg Int32.toInt ex_10
    refine lv_if_eq (tgt := 27) hx hb dX11_out_16 (by decide) (fun c_11 => ?_) (fun c_11 => ?_)
    · have t_c_11 := congrArg Int32.toInt c_11
      have hE := hE.trans (if_pos c_11)
      refine lv_aload_n hx hb dX11_out_27 rfl (lv_at hl 0 rfl) ?_
      refine va_get (D := D) (ci := 11) (v := .ref (mq 45)) (C := RX11) (T := TX11) (N := 74) hx hb ha inlX11 hown hK hP 0 mw_at0 rfl 45 (by decide) (ha _ kf_X11_103) (fun _ h9 => h9) rfl dX11_out_28 ?_
      refine lv_iload_n hx hb dX11_out_31 rfl (lv_at hl 1 rfl) ?_
      have hin_12 : vp_in f 4 := vpi_of (by omega) (by omega)
      refine va_iald hx hb hK hP 27 0 mw_at45 rfl hin_12 dX11_out_32 ?_
      refine lv_topi (fun x_13 ex_13 => ?_)
      have hE := bd_at ex_13 hE
      have u_x_13 := congrArg Int32.toInt ex_13
      have r_x_13 := rg_ld (MB_nxt hI) hin_12 ex_13
      refine lv_aload_n hx hb dX11_out_33 rfl (lv_at hl 0 rfl) ?_
      refine va_get (D := D) (ci := 11) (v := .ref (mq 44)) (C := RX11) (T := TX11) (N := 74) hx hb ha inlX11 hown hK hP 0 mw_at0 rfl 44 (by decide) (ha _ kf_X11_100) (fun _ h9 => h9) rfl dX11_out_34 ?_
      refine lv_iload_n hx hb dX11_out_37 rfl (lv_at hl 1 rfl) ?_
      have hin_14 : vp_in f 4 := vpi_of (by omega) (by omega)
      refine va_iald hx hb hK hP 26 0 mw_at44 rfl hin_14 dX11_out_38 ?_
      refine lv_topi (fun x_15 ex_15 => ?_)
      have hE := bd_at ex_15 hE
      have u_x_15 := congrArg Int32.toInt ex_15
      have r_x_15 := rg_ld (MB_una hI) hin_14 ex_15
      refine lv_isub hx hb dX11_out_39 ?_
      refine lv_topi (fun x_16 ex_16 => ?_)
      have hE := bd_at ex_16 hE
      try have t_x_16 := ti_sub ex_16 (by omega) (by omega)
      exact W.iret (v := x_16) hx hb hr (fun t ht hW => ⟨⟨x_16, (), rfl, ⟨trivial, by rw [← hRES, hE]⟩, ⟨mi, ma, ⟨⟨hI, fun k hk => (hFI k hk).trans (by rw [hmi0]), fun k hk => (hFA k hk).trans (by rw [hma0]), fun _ h9 => absurd (ex_10.symm.trans c_11) h9⟩, by rw [← hRES, hE], by rw [← hRES, hE]⟩, by rw [ht]; exact hP, va_K.moved hW.alike hK, hD⟩⟩, hS.F ht⟩) hS.2.2 dX11_out_40
    · have t_c_11 := mt Int32.toInt_inj.mp c_11
      have hE := hE.trans (if_neg c_11)
      refine lv_aload_n hx hb dX11_out_19 rfl (lv_at hl 0 rfl) ?_
      refine lv_iload_n hx hb dX11_out_20 rfl (lv_at hl 1 rfl) ?_
      have hFc := va_freeW hD hS hA
      refine va_calli (va_runV (As := [.int f]) (rest := []) ⟨hx, hb, hml, hown, ha⟩ (m_pipe l D cI cJ cZ cO _ h0 mq mi ma ph cl f hI hf0 hf4) (cwV 1 ha (gaV kl_X11_338 km_X11_pipe ks_X11_pipe kz_X11 kd_X11_pipe) rfl rfl rfl (by decide +kernel) ⟨Nat.le_of_ble_eq_true rfl, Nat.le_of_ble_eq_true rfl⟩) ⟨pw_blind, va_recv hK hP (ci := 11) (q0 := 0) rfl rfl, fun U hU hW => ⟨rfl, pw_start hU hW hP hK hD hN⟩⟩ rfl rfl hl.1 rfl (lv_room (Nat.le_of_ble_eq_true rfl)) dX11_out_21 ⟨Nat.le_of_ble_eq_true rfl, Nat.le_of_ble_eq_true rfl⟩) hS (fun q _ h => hFc q h) hFc (fun r_17 u t H1 locs ht hvm hw hB hz1 hk1 hS => ?_)
      obtain ⟨mi_18, ma_19, ⟨hf_20, hX1, hX2⟩, hP, hK1, hD1⟩ := hB
      have hE := bc_at hX1 hX2 hw.2 hE
      rw [ht] at hP
      have hD := hD1.weaken (fun k q _ h => hFc q.1 h)
      clear hD1
      generalize H1 = H at hP hS ⊢
      refine W.widen (k := 0) (n := 0) (Nat.le_refl _) (Nat.le_refl _) ?_
      have hI := hf_20.1
      have hFI : ∀ k, k ∉ ([73] : List Nat) → mi_18 k = mi0 k := fun k hk => (hf_20.2.1 k (fun h => hk (by revert h; exact sub_of (by decide) k))).trans (hFI k hk)
      have hFA : ∀ k, k ∉ ([] : List Nat) → ma_19 k = ma0 k := fun k hk => (hf_20.2.2.1 k (fun h => hk (by revert h; exact sub_of (by decide) k))).trans (hFA k hk)
      have hr_17 := hw.1
      refine lv_goto (tgt := 40) hx hb dX11_out_24 (by decide) ?_
      exact W.iret (v := r_17) hx hb hr (fun t ht hW => ⟨⟨r_17, (), rfl, ⟨trivial, by rw [← hRES, hE]⟩, ⟨mi_18, ma_19, ⟨⟨hI, fun k hk => (hFI k hk).trans (by rw [hmi0]), fun k hk => (hFA k hk).trans (by rw [hma0]), fun _ _ => hf_20.2.2.2⟩, by rw [← hRES, hE], by rw [← hRES, hE]⟩, by rw [ht]; exact hP, va_K.moved hW.alike hK, hD⟩⟩, hS.F ht⟩) hS.2.2 dX11_out_40
