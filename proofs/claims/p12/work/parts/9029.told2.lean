theorem fg2 {t a b c d e q o : Int32} (ea : a = t) (eb : b = t) (ec : c = t) (ed : d = c - 1) (hg : d = o) (ee : e = o) (h0 : ¬ q < 0) (h1 : ¬ a ≤ q) (h2 : ¬ 64 < b) : vp_in e 64 ∧ vp_in q 64 ∧ 0 ≤ o := by
  rw [ea] at h1
  rw [eb] at h2
  rw [ec] at ed
  rw [ee, ← hg, ed]
  obtain ⟨j, hj, rfl⟩ := nI_of h0
  have h3 : ¬ t < 0 := fun w => h1 (Int32.le_trans (Int32.le_of_lt w) (Int32.not_lt.mp h0))
  clear ea eb ec ed
  obtain ⟨k, hk, rfl⟩ := nI_of h3
  have hjk : j < k := by
    rcases Nat.lt_or_ge j k with w | w
    · exact w
    · exact absurd (nI_le w hj) h1
  have hk64 : k ≤ 64 := by
    rcases Nat.lt_or_ge 64 k with w | w
    · exact absurd (nI_lt (a := 64) w hk) h2
    · exact w
  obtain ⟨k1, rfl⟩ : ∃ k1, k = k1 + 1 := ⟨k - 1, by omega⟩
  rw [nI_pred]
  exact ⟨vp_in_nI (by omega) (by decide), vp_in_nI (by omega) (by decide), nI_pos' (by omega)⟩
theorem tl2 {t a b : Int32} (hT : 0 ≤ t) (ea : a = t) (h : ¬ 64 ≤ a) (eb : b = t) : vp_in b 64 ∧ 0 ≤ b + 1 := by
  rw [ea] at h
  rw [eb]
  exact ⟨sw_in (k := 64) (by decide) hT (by rw [← show (64 : Int32) = nI 64 by decide]; exact h), sw_ge1 (k := 64) (by decide) hT (by rw [← show (64 : Int32) = nI 64 by decide]; exact h) rfl⟩
set_option maxRecDepth 100000 in
def xc_forget (ov : Nat → Int32) (tf : Nat → Int32) (n : Int32) : (Nat → Int32) × (Nat → Int32) := (if n < (0 : Int32) then (ov, tf) else bd (ov 10) (fun v1 => (if v1 ≤ n then (ov, tf) else bd (ov 10) (fun v2 => (if (64 : Int32) < v2 then (ov, tf) else bd (ov 10) (fun v3 => bd (v3 - (1 : Int32)) (fun v4 => bd (upd ov 10 v4) (fun ov => bd (ov 10) (fun v5 => bd (tf v5.toNatClampNeg) (fun v6 => bd (upd tf (n.toNatClampNeg) v6) (fun tf => (ov, tf))))))))))))
set_option maxHeartbeats 4000000 in
set_option maxRecDepth 100000 in
theorem s_forget (l : Launch) (D : va_G) (cI cJ cZ cO : ClassId) (sz : Nat) (r0 r1 r2 r3 r4 r5 : Nat) (ov tf : Nat → Int32) (ol : Option Nat) (n : Int32) (hT : 0 ≤ ov 10) : Met l yX7_forgetTold (wa yX7_forgetTold cX7_forgetTold 2 none) ({ frames := 0, cells := 0, slots := 0, locals := 0 }) (va_Pc [.ref r0, .int n] (pw_s D cI cJ cZ cO sz [(r0, rdC ov (va_rf ol) r1 r2 r3 r4 r5), (r5, tlC cI tf)])) (va_Qv (fun (_ : Unit) => True) (fun (_ : Unit) (t : State) => ∃ (ov2 tf2 : Nat → Int32), ((0 ≤ ov2 10 ∧ (ov2 1 = ov 1 ∧ ov2 2 = ov 2 ∧ ov2 3 = ov 3)) ∧ ov2 = (xc_forget ov tf n).1 ∧ tf2 = (xc_forget ov tf n).2) ∧ pw_t D cI cJ cZ cO (va_A [(r0, rdC ov (va_rf ol) r1 r2 r3 r4 r5), (r5, tlC cI tf)] sz) [(r0, rdC ov2 (va_rf ol) r1 r2 r3 r4 r5), (r5, tlC cI tf2)] t) (va_A [(r0, rdC ov (va_rf ol) r1 r2 r3 r4 r5), (r5, tlC cI tf)] sz)) 0 0 (va_A [(r0, rdC ov (va_rf ol) r1 r2 r3 r4 r5), (r5, tlC cI tf)] sz) := by
  refine Met.ofW (cc := cX7_forgetTold) (maxL := 2) (ret := none) (by decide) rfl ?_
  intro p e s m args below meth c s₁ B hml hv
  obtain ⟨rfl, hsz, hP, hK, hD0, hN⟩ := hv
  have hx := B.exec
  have hb := B.bytes
  have hr := B.returns
  have hts := atoms_spec (ws := (wa yX7_forgetTold cX7_forgetTold 2 none)) B.pre
  have ha : ∀ w ∈ wsL_law, w.before _ s = true := fun w h => hts w (List.mem_cons_of_mem _ h)
  have hown : s.vm.findClass RX7 = some m.cls := findClass_of_methodNamed B.named
  have hlocks := B.notSynchronized
  subst hsz
  have hD := hD0.self (sz := s.heap.size)
  generalize hAe : va_A [(r0, rdC ov (va_rf ol) r1 r2 r3 r4 r5), (r5, tlC cI tf)] s.heap.size = A at hD ⊢
  have hA : ∀ q : Nat, s.heap.size ≤ q → A q := fun q h => by rw [← hAe]; exact Or.inr h
  have hS : va_S A s.heap s.heap [] := va_S.rf
  have hP : va_P D vwCl [(r0, rdC ov (va_rf ol) r1 r2 r3 r4 r5), (r5, tlC cI tf)] s.heap := hP
  have hl := lv_entry ([.ref r0, .int n]) (n := 2) (Nat.le_of_ble_eq_true rfl)
  rw [lg_entry_eq]
  generalize (lg_sl ([.ref r0, .int n]) ++ List.replicate (2 - (lg_sl ([.ref r0, .int n])).length) Slot.unset).toArray = ls at hl ⊢
  have hl : lv_has ls 2 [(0, .ref r0), (1, .int n)] := hl
  obtain ⟨QP, hQP⟩ : ∃ y : State → Prop, y = (MQ below (va_Qv (fun (_ : Unit) => True) (fun (_ : Unit) (t : State) => ∃ (ov2 tf2 : Nat → Int32), ((0 ≤ ov2 10 ∧ (ov2 1 = ov 1 ∧ ov2 2 = ov 2 ∧ ov2 3 = ov 3)) ∧ ov2 = (xc_forget ov tf n).1 ∧ tf2 = (xc_forget ov tf n).2) ∧ pw_t D cI cJ cZ cO A [(r0, rdC ov2 (va_rf ol) r1 r2 r3 r4 r5), (r5, tlC cI tf2)] t) A) #[(.ref r0 : Value), (.int n : Value)] s 0 0 A) := ⟨_, rfl⟩
  obtain ⟨RES, hRES⟩ : ∃ y, y = (xc_forget ov tf n) := ⟨_, rfl⟩
  -- from the entry
  have hE := hRES
  unfold xc_forget at hE
  refine lv_iload_n hx hb dX7_forgetTold_0 rfl (lv_at hl 1 rfl) ?_
  refine lv_if_lt (tgt := 49) hx hb dX7_forgetTold_1 (by decide) (fun c_12 => ?_) (fun c_12 => ?_)
  · have hE := hE.trans (if_pos c_12)
    have hP9 : va_P D vwCl [(r0, rdC ov (va_rf ol) r1 r2 r3 r4 r5), (r5, tlC cI tf)] _ := hP
    have hD9 : va_D A [(r0, rdC ov (va_rf ol) r1 r2 r3 r4 r5), (r5, tlC cI tf)] := hD
    exact W.vret hx hb hr (fun t ht hW => ⟨⟨(), rfl, trivial, ⟨ov, tf, ⟨⟨hT, rfl, rfl, rfl⟩, (by rw [← hRES, hE]), (by rw [← hRES, hE])⟩, by rw [ht]; exact hP9, va_K.moved hW.alike hK, hD9⟩⟩, hS.F ht⟩) hS.2.2 dX7_forgetTold_49
  · have hE := hE.trans (if_neg c_12)
    refine lv_iload_n hx hb dX7_forgetTold_4 rfl (lv_at hl 1 rfl) ?_
    refine lv_aload_n hx hb dX7_forgetTold_5 rfl (lv_at hl 0 rfl) ?_
    refine va_get (D := D) (ci := 7) (v := .int (ov 10)) (C := RX7) (T := TX7) (N := 15) hx hb ha inlX7 hown hK hP 0 rfl rfl 10 (by decide) (ha _ kf_X7_47) (fun _ h9 => h9) rfl dX7_forgetTold_6 ?_
    refine lv_topi (fun x_13 ex_13 => ?_)
    have hE := bd_at ex_13 hE
    refine lv_icmp_ge (tgt := 49) hx hb dX7_forgetTold_9 (by decide) (fun c_14 => ?_) (fun c_14 => ?_)
    · have hE := hE.trans (if_pos c_14)
      have hP9 : va_P D vwCl [(r0, rdC ov (va_rf ol) r1 r2 r3 r4 r5), (r5, tlC cI tf)] _ := hP
      have hD9 : va_D A [(r0, rdC ov (va_rf ol) r1 r2 r3 r4 r5), (r5, tlC cI tf)] := hD
      exact W.vret hx hb hr (fun t ht hW => ⟨⟨(), rfl, trivial, ⟨ov, tf, ⟨⟨hT, rfl, rfl, rfl⟩, (by rw [← hRES, hE]), (by rw [← hRES, hE])⟩, by rw [ht]; exact hP9, va_K.moved hW.alike hK, hD9⟩⟩, hS.F ht⟩) hS.2.2 dX7_forgetTold_49
    · have hE := hE.trans (if_neg c_14)
      refine lv_aload_n hx hb dX7_forgetTold_12 rfl (lv_at hl 0 rfl) ?_
      refine va_get (D := D) (ci := 7) (v := .int (ov 10)) (C := RX7) (T := TX7) (N := 15) hx hb ha inlX7 hown hK hP 0 rfl rfl 10 (by decide) (ha _ kf_X7_47) (fun _ h9 => h9) rfl dX7_forgetTold_13 ?_
      refine lv_topi (fun x_15 ex_15 => ?_)
      have hE := bd_at ex_15 hE
      refine lv_aload_n hx hb dX7_forgetTold_16 rfl (lv_at hl 0 rfl) ?_
      refine va_get (D := D) (ci := 7) (v := .ref r5) (C := RX7) (T := TX7) (N := 15) hx hb ha inlX7 hown hK hP 0 rfl rfl 9 (by decide) (ha _ kf_X7_40) (fun _ h9 => h9) rfl dX7_forgetTold_17 ?_
      refine va_alen hx hb hK hP 1 0 (v := 64) rfl rfl (show Int32.ofNat 64 = 64 by decide) dX7_forgetTold_20 ?_
      refine lv_icmp_gt (tgt := 49) hx hb dX7_forgetTold_21 (by decide) (fun c_16 => ?_) (fun c_16 => ?_)
      · have hE := hE.trans (if_pos c_16)
        have hP9 : va_P D vwCl [(r0, rdC ov (va_rf ol) r1 r2 r3 r4 r5), (r5, tlC cI tf)] _ := hP
        have hD9 : va_D A [(r0, rdC ov (va_rf ol) r1 r2 r3 r4 r5), (r5, tlC cI tf)] := hD
        exact W.vret hx hb hr (fun t ht hW => ⟨⟨(), rfl, trivial, ⟨ov, tf, ⟨⟨hT, rfl, rfl, rfl⟩, (by rw [← hRES, hE]), (by rw [← hRES, hE])⟩, by rw [ht]; exact hP9, va_K.moved hW.alike hK, hD9⟩⟩, hS.F ht⟩) hS.2.2 dX7_forgetTold_49
      · have hE := hE.trans (if_neg c_16)
        refine lv_aload_n hx hb dX7_forgetTold_24 rfl (lv_at hl 0 rfl) ?_
        refine lv_dup hx hb dX7_forgetTold_25 rfl ?_
        refine va_get (D := D) (ci := 7) (v := .int (ov 10)) (C := RX7) (T := TX7) (N := 15) hx hb ha inlX7 hown hK hP 0 rfl rfl 10 (by decide) (ha _ kf_X7_47) (fun _ h9 => h9) rfl dX7_forgetTold_26 ?_
        refine lv_topi (fun x_17 ex_17 => ?_)
        have hE := bd_at ex_17 hE
        refine lv_iconst (v := 1) hx hb dX7_forgetTold_29 (by decide) ?_
        refine lv_isub hx hb dX7_forgetTold_30 ?_
        refine lv_topi (fun x_18 ex_18 => ?_)
        have hE := bd_at ex_18 hE
        refine va_put (D := D) (ci := 7) (v := .int x_18) (ty := .int) (C := RX7) (T := TX7) (N := 15) hx hb ha inlX7 tyX7 tyX7_ok nmX7 hown hK hP hD hS 0 rfl rfl 10 (by decide) (ha _ kf_X7_47) (fun _ h9 => h9) rfl (by decide +kernel) rfl rfl (Nat.le_of_ble_eq_true rfl) dX7_forgetTold_31 (fun H locs hP hD hS => ?_)
        have hP : va_P D vwCl [(r0, rdC (upd ov 10 x_18) (va_rf ol) r1 r2 r3 r4 r5), (r5, tlC cI tf)] H := hP
        have hD : va_D A [(r0, rdC (upd ov 10 x_18) (va_rf ol) r1 r2 r3 r4 r5), (r5, tlC cI tf)] := hD
        generalize hg_19 : upd ov 10 x_18 = ov at hP hD
        have hE := bs_at hg_19 hE
        refine lv_aload_n hx hb dX7_forgetTold_34 rfl (lv_at hl 0 rfl) ?_
        refine va_get (D := D) (ci := 7) (v := .ref r5) (C := RX7) (T := TX7) (N := 15) hx hb ha inlX7 hown hK hP 0 rfl rfl 9 (by decide) (ha _ kf_X7_40) (fun _ h9 => h9) rfl dX7_forgetTold_35 ?_
        refine lv_iload_n hx hb dX7_forgetTold_38 rfl (lv_at hl 1 rfl) ?_
        refine lv_aload_n hx hb dX7_forgetTold_39 rfl (lv_at hl 0 rfl) ?_
        refine va_get (D := D) (ci := 7) (v := .ref r5) (C := RX7) (T := TX7) (N := 15) hx hb ha inlX7 hown hK hP 0 rfl rfl 9 (by decide) (ha _ kf_X7_40) (fun _ h9 => h9) rfl dX7_forgetTold_40 ?_
        refine lv_aload_n hx hb dX7_forgetTold_43 rfl (lv_at hl 0 rfl) ?_
        refine va_get (D := D) (ci := 7) (v := .int (ov 10)) (C := RX7) (T := TX7) (N := 15) hx hb ha inlX7 hown hK hP 0 rfl rfl 10 (by decide) (ha _ kf_X7_47) (fun _ h9 => h9) rfl dX7_forgetTold_44 ?_
        refine lv_topi (fun x_20 ex_20 => ?_)
        have hE := bd_at ex_20 hE
        refine va_iald hx hb hK hP 1 0 rfl rfl (fg2 ex_13 ex_15 ex_17 ex_18 (congrFun hg_19 10) ex_20 c_12 c_14 c_16).1 dX7_forgetTold_47 ?_
        refine lv_topi (fun x_21 ex_21 => ?_)
        have hE := bd_at ex_21 hE
        refine va_iast hx hb hK hP hD hS 1 0 rfl rfl (fg2 ex_13 ex_15 ex_17 ex_18 (congrFun hg_19 10) rfl c_12 c_14 c_16).2.1 dX7_forgetTold_48 (fun H locs hP hD hS => ?_)
        have hP : va_P D vwCl [(r0, rdC ov (va_rf ol) r1 r2 r3 r4 r5), (r5, .inl (cI, 64, .inl (upd tf ((n : Int32).toNatClampNeg) x_21)))] H := hP
        have hD : va_D A [(r0, rdC ov (va_rf ol) r1 r2 r3 r4 r5), (r5, .inl (cI, 64, .inl (upd tf ((n : Int32).toNatClampNeg) x_21)))] := hD
        generalize hga_22 : upd tf ((n : Int32).toNatClampNeg) x_21 = tf at hP hD
        have hE := bs_at hga_22 hE
        have hP9 : va_P D vwCl [(r0, rdC ov (va_rf ol) r1 r2 r3 r4 r5), (r5, tlC cI tf)] _ := hP
        have hD9 : va_D A [(r0, rdC ov (va_rf ol) r1 r2 r3 r4 r5), (r5, tlC cI tf)] := hD
        exact W.vret hx hb hr (fun t ht hW => ⟨⟨(), rfl, trivial, ⟨ov, tf, ⟨⟨(fg2 ex_13 ex_15 ex_17 ex_18 (congrFun hg_19 10) rfl c_12 c_14 c_16).2.2, (congrFun hg_19 1).symm, (congrFun hg_19 2).symm, (congrFun hg_19 3).symm⟩, (by rw [← hRES, hE]), (by rw [← hRES, hE])⟩, by rw [ht]; exact hP9, va_K.moved hW.alike hK, hD9⟩⟩, hS.F ht⟩) hS.2.2 dX7_forgetTold_49

set_option maxRecDepth 100000 in
def xc_tellLost (ov : Nat → Int32) (tf : Nat → Int32) (n : Int32) : (Nat → Int32) × (Nat → Int32) × Int32 := bd (ov 11) (fun v1 => (if n < v1 then (ov, tf, (0 : Int32)) else bd (ov 10) (fun v2 => (if v2 < (64 : Int32) then bd (xc_place ov tf n) (fun t3 => bd (t3) (fun v4 => (if v4 = ((-1) : Int32) then bd (ov 10) (fun v5 => bd (upd tf (v5.toNatClampNeg) n) (fun tf => bd (ov 10) (fun v6 => bd (v6 + (1 : Int32)) (fun v7 => bd (upd ov 10 v7) (fun ov => (ov, tf, (1 : Int32))))))) else (ov, tf, (1 : Int32))))) else (ov, tf, (0 : Int32))))))
set_option maxHeartbeats 4000000 in
set_option maxRecDepth 100000 in
theorem s_tellLost (l : Launch) (D : va_G) (cI cJ cZ cO : ClassId) (sz : Nat) (r0 r1 r2 r3 r4 r5 : Nat) (ov tf : Nat → Int32) (ol : Option Nat) (n : Int32) (hT : 0 ≤ ov 10) : Met l yX7_tellLost (wa yX7_tellLost cX7_tellLost 2 (some .boolean)) ({ frames := 1, cells := 0, slots := 0, locals := 22 }) (va_Pc [.ref r0, .int n] (pw_s D cI cJ cZ cO sz [(r0, rdC ov (va_rf ol) r1 r2 r3 r4 r5), (r5, tlC cI tf)])) (va_Qi (fun (r : Int32) (_ : Unit) => ((True) ∧ r = (xc_tellLost ov tf n).2.2)) (fun (_ : Unit) (t : State) => ∃ (ov2 tf2 : Nat → Int32), ((0 ≤ ov2 10 ∧ (ov2 1 = ov 1 ∧ ov2 2 = ov 2 ∧ ov2 3 = ov 3)) ∧ ov2 = (xc_tellLost ov tf n).1 ∧ tf2 = (xc_tellLost ov tf n).2.1) ∧ pw_t D cI cJ cZ cO (va_A [(r0, rdC ov (va_rf ol) r1 r2 r3 r4 r5), (r5, tlC cI tf)] sz) [(r0, rdC ov2 (va_rf ol) r1 r2 r3 r4 r5), (r5, tlC cI tf2)] t) (va_A [(r0, rdC ov (va_rf ol) r1 r2 r3 r4 r5), (r5, tlC cI tf)] sz)) 0 0 (va_A [(r0, rdC ov (va_rf ol) r1 r2 r3 r4 r5), (r5, tlC cI tf)] sz) := by
  refine Met.ofW (cc := cX7_tellLost) (maxL := 2) (ret := (some .boolean)) (by decide) rfl ?_
  intro p e s m args below meth c s₁ B hml hv
  obtain ⟨rfl, hsz, hP, hK, hD0, hN⟩ := hv
  have hx := B.exec
  have hb := B.bytes
  have hr := B.returns
  have hts := atoms_spec (ws := (wa yX7_tellLost cX7_tellLost 2 (some .boolean))) B.pre
  have ha : ∀ w ∈ wsL_law, w.before _ s = true := fun w h => hts w (List.mem_cons_of_mem _ h)
  have hown : s.vm.findClass RX7 = some m.cls := findClass_of_methodNamed B.named
  have hlocks := B.notSynchronized
  subst hsz
  have hD := hD0.self (sz := s.heap.size)
  generalize hAe : va_A [(r0, rdC ov (va_rf ol) r1 r2 r3 r4 r5), (r5, tlC cI tf)] s.heap.size = A at hD ⊢
  have hA : ∀ q : Nat, s.heap.size ≤ q → A q := fun q h => by rw [← hAe]; exact Or.inr h
  have hS : va_S A s.heap s.heap [] := va_S.rf
  have hP : va_P D vwCl [(r0, rdC ov (va_rf ol) r1 r2 r3 r4 r5), (r5, tlC cI tf)] s.heap := hP
  have hl := lv_entry ([.ref r0, .int n]) (n := 2) (Nat.le_of_ble_eq_true rfl)
  rw [lg_entry_eq]
  generalize (lg_sl ([.ref r0, .int n]) ++ List.replicate (2 - (lg_sl ([.ref r0, .int n])).length) Slot.unset).toArray = ls at hl ⊢
  have hl : lv_has ls 2 [(0, .ref r0), (1, .int n)] := hl
  obtain ⟨QP, hQP⟩ : ∃ y : State → Prop, y = (MQ below (va_Qi (fun (r : Int32) (_ : Unit) => ((True) ∧ r = (xc_tellLost ov tf n).2.2)) (fun (_ : Unit) (t : State) => ∃ (ov2 tf2 : Nat → Int32), ((0 ≤ ov2 10 ∧ (ov2 1 = ov 1 ∧ ov2 2 = ov 2 ∧ ov2 3 = ov 3)) ∧ ov2 = (xc_tellLost ov tf n).1 ∧ tf2 = (xc_tellLost ov tf n).2.1) ∧ pw_t D cI cJ cZ cO A [(r0, rdC ov2 (va_rf ol) r1 r2 r3 r4 r5), (r5, tlC cI tf2)] t) A) #[(.ref r0 : Value), (.int n : Value)] s 0 0 A) := ⟨_, rfl⟩
  obtain ⟨RES, hRES⟩ : ∃ y, y = (xc_tellLost ov tf n) := ⟨_, rfl⟩
  -- from the entry
  have hE := hRES
  unfold xc_tellLost at hE
  refine lv_iload_n hx hb dX7_tellLost_0 rfl (lv_at hl 1 rfl) ?_
  refine lv_aload_n hx hb dX7_tellLost_1 rfl (lv_at hl 0 rfl) ?_
  refine va_get (D := D) (ci := 7) (v := .int (ov 11)) (C := RX7) (T := TX7) (N := 15) hx hb ha inlX7 hown hK hP 0 rfl rfl 11 (by decide) (ha _ kf_X7_44) (fun _ h9 => h9) rfl dX7_tellLost_2 ?_
  refine lv_topi (fun x_12 ex_12 => ?_)
  have hE := bd_at ex_12 hE
  refine lv_icmp_lt (tgt := 17) hx hb dX7_tellLost_5 (by decide) (fun c_13 => ?_) (fun c_13 => ?_)
  · have hE := hE.trans (if_pos c_13)
    refine lv_iconst (v := 0) hx hb dX7_tellLost_17 (by decide) ?_
    have hP9 : va_P D vwCl [(r0, rdC ov (va_rf ol) r1 r2 r3 r4 r5), (r5, tlC cI tf)] _ := hP
    have hD9 : va_D A [(r0, rdC ov (va_rf ol) r1 r2 r3 r4 r5), (r5, tlC cI tf)] := hD
    exact W.zret (v := 0) hx hb hr rfl (fun t ht hW => ⟨⟨0, (), rfl, ⟨trivial, (by rw [← hRES, hE])⟩, ⟨ov, tf, ⟨⟨hT, rfl, rfl, rfl⟩, (by rw [← hRES, hE]), (by rw [← hRES, hE])⟩, by rw [ht]; exact hP9, va_K.moved hW.alike hK, hD9⟩⟩, hS.F ht⟩) hS.2.2 dX7_tellLost_18
  · have hE := hE.trans (if_neg c_13)
    refine lv_aload_n hx hb dX7_tellLost_8 rfl (lv_at hl 0 rfl) ?_
    refine va_get (D := D) (ci := 7) (v := .int (ov 10)) (C := RX7) (T := TX7) (N := 15) hx hb ha inlX7 hown hK hP 0 rfl rfl 10 (by decide) (ha _ kf_X7_47) (fun _ h9 => h9) rfl dX7_tellLost_9 ?_
    refine lv_topi (fun x_14 ex_14 => ?_)
    have hE := bd_at ex_14 hE
    refine lv_bipush (v := 64) hx hb dX7_tellLost_12 (by decide) ?_
    refine lv_icmp_lt (tgt := 19) hx hb dX7_tellLost_14 (by decide) (fun c_15 => ?_) (fun c_15 => ?_)
    · have hE := hE.trans (if_pos c_15)
      refine lv_aload_n hx hb dX7_tellLost_19 rfl (lv_at hl 0 rfl) ?_
      refine lv_iload_n hx hb dX7_tellLost_20 rfl (lv_at hl 1 rfl) ?_
      have hPc := hP.sub (ws' := [(r0, rdC ov (va_rf ol) r1 r2 r3 r4 r5), (r5, tlC cI tf)]) [0, 1] rfl
      have hDc := hD.sub (ws' := [(r0, rdC ov (va_rf ol) r1 r2 r3 r4 r5), (r5, tlC cI tf)]) [0, 1] (by decide) rfl
      have hFc := va_free (wc := [(r0, rdC ov (va_rf ol) r1 r2 r3 r4 r5), (r5, tlC cI tf)]) hD hS hA [0, 1] rfl
      refine va_calli (va_runV (As := [.int n]) (rest := []) ⟨hx, hb, hml, hown, ha⟩ (s_place l D cI cJ cZ cO _ r0 r1 r2 r3 r4 r5 ov tf ol n) (cwV 1 ha (gaV kl_X7_50 km_X7_placeOfTold ks_X7_placeOfTold kz_X7 kd_X7_placeOfTold) rfl rfl rfl (by decide +kernel) ⟨Nat.le_of_ble_eq_true rfl, Nat.le_of_ble_eq_true rfl⟩) ⟨pw_blind, va_recv hK hPc (ci := 7) (q0 := 0) rfl rfl, fun U hU hW => ⟨rfl, pw_start hU hW hPc hK hDc hN⟩⟩ rfl rfl hl.1 rfl (lv_room (Nat.le_of_ble_eq_true rfl)) dX7_tellLost_21 ⟨Nat.le_of_ble_eq_true rfl, Nat.le_of_ble_eq_true rfl⟩) hS (fun q _ h => hFc q h) hFc (fun r_16 u t H1 locs ht hvm hw hB hz1 hk1 hS => ?_)
      obtain ⟨hP1, hK1, hD1⟩ := hB
      have hE := bd_at rfl hE
      have hE := bd_at hw.2 hE
      rw [ht] at hP1
      obtain ⟨hP, hD⟩ := va_join (wr := []) (w1 := [(r0, rdC ov (va_rf ol) r1 r2 r3 r4 r5), (r5, tlC cI tf)]) hP hD [0, 1] [] rfl rfl (by decide) (by decide) hk1 hFc hP1 hD1
      generalize H1 = H at hP hS ⊢
      have hP : va_P D vwCl [(r0, rdC ov (va_rf ol) r1 r2 r3 r4 r5), (r5, tlC cI tf)] H := hP
      have hD : va_D A [(r0, rdC ov (va_rf ol) r1 r2 r3 r4 r5), (r5, tlC cI tf)] := hD
      refine W.widen (k := 0) (n := 0) (Nat.le_of_ble_eq_true rfl) (Nat.le_of_ble_eq_true rfl) ?_
      have hr_16 := hw.1
      refine lv_iconst (v := (-1)) hx hb dX7_tellLost_24 (by decide) ?_
      refine lv_icmp_ne (tgt := 48) hx hb dX7_tellLost_25 (by decide) (fun c_17 => ?_) (fun c_17 => ?_)
      · have hE := hE.trans (if_neg c_17)
        refine lv_iconst (v := 1) hx hb dX7_tellLost_48 (by decide) ?_
        have hP9 : va_P D vwCl [(r0, rdC ov (va_rf ol) r1 r2 r3 r4 r5), (r5, tlC cI tf)] _ := hP
        have hD9 : va_D A [(r0, rdC ov (va_rf ol) r1 r2 r3 r4 r5), (r5, tlC cI tf)] := hD
        exact W.zret (v := 1) hx hb hr rfl (fun t ht hW => ⟨⟨1, (), rfl, ⟨trivial, (by rw [← hRES, hE])⟩, ⟨ov, tf, ⟨⟨hT, rfl, rfl, rfl⟩, (by rw [← hRES, hE]), (by rw [← hRES, hE])⟩, by rw [ht]; exact hP9, va_K.moved hW.alike hK, hD9⟩⟩, hS.F ht⟩) hS.2.2 dX7_tellLost_49
      · have hE := hE.trans (if_pos c_17)
        refine lv_aload_n hx hb dX7_tellLost_28 rfl (lv_at hl 0 rfl) ?_
        refine va_get (D := D) (ci := 7) (v := .ref r5) (C := RX7) (T := TX7) (N := 15) hx hb ha inlX7 hown hK hP 0 rfl rfl 9 (by decide) (ha _ kf_X7_40) (fun _ h9 => h9) rfl dX7_tellLost_29 ?_
        refine lv_aload_n hx hb dX7_tellLost_32 rfl (lv_at hl 0 rfl) ?_
        refine va_get (D := D) (ci := 7) (v := .int (ov 10)) (C := RX7) (T := TX7) (N := 15) hx hb ha inlX7 hown hK hP 0 rfl rfl 10 (by decide) (ha _ kf_X7_47) (fun _ h9 => h9) rfl dX7_tellLost_33 ?_
        refine lv_topi (fun x_18 ex_18 => ?_)
        have hE := bd_at ex_18 hE
        refine lv_iload_n hx hb dX7_tellLost_36 rfl (lv_at hl 1 rfl) ?_
        refine va_iast hx hb hK hP hD hS 1 0 rfl rfl (tl2 hT ex_14 (Int32.not_le.mpr c_15) ex_18).1 dX7_tellLost_37 (fun H locs hP hD hS => ?_)
        have hP : va_P D vwCl [(r0, rdC ov (va_rf ol) r1 r2 r3 r4 r5), (r5, .inl (cI, 64, .inl (upd tf ((x_18 : Int32).toNatClampNeg) n)))] H := hP
        have hD : va_D A [(r0, rdC ov (va_rf ol) r1 r2 r3 r4 r5), (r5, .inl (cI, 64, .inl (upd tf ((x_18 : Int32).toNatClampNeg) n)))] := hD
        generalize hga_19 : upd tf ((x_18 : Int32).toNatClampNeg) n = tf at hP hD
        have hE := bs_at hga_19 hE
        refine lv_aload_n hx hb dX7_tellLost_38 rfl (lv_at hl 0 rfl) ?_
        refine lv_dup hx hb dX7_tellLost_39 rfl ?_
        refine va_get (D := D) (ci := 7) (v := .int (ov 10)) (C := RX7) (T := TX7) (N := 15) hx hb ha inlX7 hown hK hP 0 rfl rfl 10 (by decide) (ha _ kf_X7_47) (fun _ h9 => h9) rfl dX7_tellLost_40 ?_
        refine lv_topi (fun x_20 ex_20 => ?_)
        have hE := bd_at ex_20 hE
        refine lv_iconst (v := 1) hx hb dX7_tellLost_43 (by decide) ?_
        refine lv_iadd hx hb dX7_tellLost_44 ?_
        refine lv_topi (fun x_21 ex_21 => ?_)
        have hE := bd_at ex_21 hE
        refine va_put (D := D) (ci := 7) (v := .int x_21) (ty := .int) (C := RX7) (T := TX7) (N := 15) hx hb ha inlX7 tyX7 tyX7_ok nmX7 hown hK hP hD hS 0 rfl rfl 10 (by decide) (ha _ kf_X7_47) (fun _ h9 => h9) rfl (by decide +kernel) rfl rfl (Nat.le_of_ble_eq_true rfl) dX7_tellLost_45 (fun H locs hP hD hS => ?_)
        have hP : va_P D vwCl [(r0, rdC (upd ov 10 x_21) (va_rf ol) r1 r2 r3 r4 r5), (r5, tlC cI tf)] H := hP
        have hD : va_D A [(r0, rdC (upd ov 10 x_21) (va_rf ol) r1 r2 r3 r4 r5), (r5, tlC cI tf)] := hD
        generalize hg_22 : upd ov 10 x_21 = ov at hP hD
        have hE := bs_at hg_22 hE
        refine lv_iconst (v := 1) hx hb dX7_tellLost_48 (by decide) ?_
        have hP9 : va_P D vwCl [(r0, rdC ov (va_rf ol) r1 r2 r3 r4 r5), (r5, tlC cI tf)] _ := hP
        have hD9 : va_D A [(r0, rdC ov (va_rf ol) r1 r2 r3 r4 r5), (r5, tlC cI tf)] := hD
        exact W.zret (v := 1) hx hb hr rfl (fun t ht hW => ⟨⟨1, (), rfl, ⟨trivial, (by rw [← hRES, hE])⟩, ⟨ov, tf, ⟨⟨(by rw [← show x_21 = ov 10 from congrFun hg_22 10, ex_21]; exact (tl2 hT ex_14 (Int32.not_le.mpr c_15) ex_20).2), (congrFun hg_22 1).symm, (congrFun hg_22 2).symm, (congrFun hg_22 3).symm⟩, (by rw [← hRES, hE]), (by rw [← hRES, hE])⟩, by rw [ht]; exact hP9, va_K.moved hW.alike hK, hD9⟩⟩, hS.F ht⟩) hS.2.2 dX7_tellLost_49
    · have hE := hE.trans (if_neg c_15)
      refine lv_iconst (v := 0) hx hb dX7_tellLost_17 (by decide) ?_
      have hP9 : va_P D vwCl [(r0, rdC ov (va_rf ol) r1 r2 r3 r4 r5), (r5, tlC cI tf)] _ := hP
      have hD9 : va_D A [(r0, rdC ov (va_rf ol) r1 r2 r3 r4 r5), (r5, tlC cI tf)] := hD
      exact W.zret (v := 0) hx hb hr rfl (fun t ht hW => ⟨⟨0, (), rfl, ⟨trivial, (by rw [← hRES, hE])⟩, ⟨ov, tf, ⟨⟨hT, rfl, rfl, rfl⟩, (by rw [← hRES, hE]), (by rw [← hRES, hE])⟩, by rw [ht]; exact hP9, va_K.moved hW.alike hK, hD9⟩⟩, hS.F ht⟩) hS.2.2 dX7_tellLost_18

set_option maxHeartbeats 4000000 in
set_option maxRecDepth 100000 in
theorem s_set (l : Launch) (D : va_G) (cI cJ cZ cO : ClassId) (sz : Nat) (r0 r1 r2 r3 r4 r5 : Nat) (ov : Nat → Int32) (ol : Option Nat) (n1 n2 n3 n4 : Int32) : Met l yX7_set (wa yX7_set cX7_set 5 none) ({ frames := 0, cells := 0, slots := 0, locals := 0 }) (va_Pc [.ref r0, .int n1, .int n2, .int n3, .int n4] (pw_s D cI cJ cZ cO sz [(r0, rdC ov (va_rf ol) r1 r2 r3 r4 r5)])) (va_Qv (fun (_ : Unit) => True) (fun (_ : Unit) (t : State) => pw_t D cI cJ cZ cO (va_A [(r0, rdC ov (va_rf ol) r1 r2 r3 r4 r5)] sz) [(r0, .inr (7, [.int ((upd (upd (upd (upd ov 0 n1) 1 n2) 2 n3) 3 n4) 0), .int ((upd (upd (upd (upd ov 0 n1) 1 n2) 2 n3) 3 n4) 1), .int ((upd (upd (upd (upd ov 0 n1) 1 n2) 2 n3) 3 n4) 2), .int ((upd (upd (upd (upd ov 0 n1) 1 n2) 2 n3) 3 n4) 3), va_rf ol, .ref r1, .ref r2, .ref r3, .ref r4, .ref r5, .int ((upd (upd (upd (upd ov 0 n1) 1 n2) 2 n3) 3 n4) 10), .int ((upd (upd (upd (upd ov 0 n1) 1 n2) 2 n3) 3 n4) 11), .int ((upd (upd (upd (upd ov 0 n1) 1 n2) 2 n3) 3 n4) 12), .int ((upd (upd (upd (upd ov 0 n1) 1 n2) 2 n3) 3 n4) 13), .int ((upd (upd (upd (upd ov 0 n1) 1 n2) 2 n3) 3 n4) 14)]))] t) (va_A [(r0, rdC ov (va_rf ol) r1 r2 r3 r4 r5)] sz)) 0 0 (va_A [(r0, rdC ov (va_rf ol) r1 r2 r3 r4 r5)] sz) := by
  refine Met.ofW (cc := cX7_set) (maxL := 5) (ret := none) (by decide) rfl ?_
  intro p e s m args below meth c s₁ B hml hv
  obtain ⟨rfl, hsz, hP, hK, hD0, hN⟩ := hv
  have hx := B.exec
  have hb := B.bytes
  have hr := B.returns
  have hts := atoms_spec (ws := (wa yX7_set cX7_set 5 none)) B.pre
  have ha : ∀ w ∈ wsL_law, w.before _ s = true := fun w h => hts w (List.mem_cons_of_mem _ h)
  have hown : s.vm.findClass RX7 = some m.cls := findClass_of_methodNamed B.named
  have hlocks := B.notSynchronized
  subst hsz
  have hD := hD0.self (sz := s.heap.size)
  generalize hAe : va_A [(r0, rdC ov (va_rf ol) r1 r2 r3 r4 r5)] s.heap.size = A at hD ⊢
  have hA : ∀ q : Nat, s.heap.size ≤ q → A q := fun q h => by rw [← hAe]; exact Or.inr h
  have hS : va_S A s.heap s.heap [] := va_S.rf
  have hP : va_P D vwCl [(r0, rdC ov (va_rf ol) r1 r2 r3 r4 r5)] s.heap := hP
  have hl := lv_entry ([.ref r0, .int n1, .int n2, .int n3, .int n4]) (n := 5) (Nat.le_of_ble_eq_true rfl)
  rw [lg_entry_eq]
  generalize (lg_sl ([.ref r0, .int n1, .int n2, .int n3, .int n4]) ++ List.replicate (5 - (lg_sl ([.ref r0, .int n1, .int n2, .int n3, .int n4])).length) Slot.unset).toArray = ls at hl ⊢
  have hl : lv_has ls 5 [(0, .ref r0), (1, .int n1), (2, .int n2), (3, .int n3), (4, .int n4)] := hl
  -- from the entry
  refine lv_aload_n hx hb dX7_set_0 rfl (lv_at hl 0 rfl) ?_
  refine lv_iload_n hx hb dX7_set_1 rfl (lv_at hl 1 rfl) ?_
  refine va_put (D := D) (ci := 7) (v := .int n1) (ty := .int) (C := RX7) (T := TX7) (N := 15) hx hb ha inlX7 tyX7 tyX7_ok nmX7 hown hK hP hD hS 0 rfl rfl 0 (by decide) (ha _ kf_X7_9) (fun _ h9 => h9) rfl (by decide +kernel) rfl rfl (Nat.le_of_ble_eq_true rfl) dX7_set_2 (fun H locs hP hD hS => ?_)
  have hP : va_P D vwCl [(r0, rdC (upd ov 0 n1) (va_rf ol) r1 r2 r3 r4 r5)] H := hP
  have hD : va_D A [(r0, rdC (upd ov 0 n1) (va_rf ol) r1 r2 r3 r4 r5)] := hD
  refine lv_aload_n hx hb dX7_set_5 rfl (lv_at hl 0 rfl) ?_
  refine lv_iload_n hx hb dX7_set_6 rfl (lv_at hl 2 rfl) ?_
  refine va_put (D := D) (ci := 7) (v := .int n2) (ty := .int) (C := RX7) (T := TX7) (N := 15) hx hb ha inlX7 tyX7 tyX7_ok nmX7 hown hK hP hD hS 0 rfl rfl 1 (by decide) (ha _ kf_X7_15) (fun _ h9 => h9) rfl (by decide +kernel) rfl rfl (Nat.le_of_ble_eq_true rfl) dX7_set_7 (fun H locs hP hD hS => ?_)
  have hP : va_P D vwCl [(r0, rdC (upd (upd ov 0 n1) 1 n2) (va_rf ol) r1 r2 r3 r4 r5)] H := hP
  have hD : va_D A [(r0, rdC (upd (upd ov 0 n1) 1 n2) (va_rf ol) r1 r2 r3 r4 r5)] := hD
  refine lv_aload_n hx hb dX7_set_10 rfl (lv_at hl 0 rfl) ?_
  refine lv_iload_n hx hb dX7_set_11 rfl (lv_at hl 3 rfl) ?_
  refine va_put (D := D) (ci := 7) (v := .int n3) (ty := .int) (C := RX7) (T := TX7) (N := 15) hx hb ha inlX7 tyX7 tyX7_ok nmX7 hown hK hP hD hS 0 rfl rfl 2 (by decide) (ha _ kf_X7_18) (fun _ h9 => h9) rfl (by decide +kernel) rfl rfl (Nat.le_of_ble_eq_true rfl) dX7_set_12 (fun H locs hP hD hS => ?_)
  have hP : va_P D vwCl [(r0, .inr (7, [.int ((upd (upd (upd ov 0 n1) 1 n2) 2 n3) 0), .int ((upd (upd (upd ov 0 n1) 1 n2) 2 n3) 1), .int ((upd (upd (upd ov 0 n1) 1 n2) 2 n3) 2), .int ((upd (upd (upd ov 0 n1) 1 n2) 2 n3) 3), va_rf ol, .ref r1, .ref r2, .ref r3, .ref r4, .ref r5, .int ((upd (upd (upd ov 0 n1) 1 n2) 2 n3) 10), .int ((upd (upd (upd ov 0 n1) 1 n2) 2 n3) 11), .int ((upd (upd (upd ov 0 n1) 1 n2) 2 n3) 12), .int ((upd (upd (upd ov 0 n1) 1 n2) 2 n3) 13), .int ((upd (upd (upd ov 0 n1) 1 n2) 2 n3) 14)]))] H := hP
  have hD : va_D A [(r0, .inr (7, [.int ((upd (upd (upd ov 0 n1) 1 n2) 2 n3) 0), .int ((upd (upd (upd ov 0 n1) 1 n2) 2 n3) 1), .int ((upd (upd (upd ov 0 n1) 1 n2) 2 n3) 2), .int ((upd (upd (upd ov 0 n1) 1 n2) 2 n3) 3), va_rf ol, .ref r1, .ref r2, .ref r3, .ref r4, .ref r5, .int ((upd (upd (upd ov 0 n1) 1 n2) 2 n3) 10), .int ((upd (upd (upd ov 0 n1) 1 n2) 2 n3) 11), .int ((upd (upd (upd ov 0 n1) 1 n2) 2 n3) 12), .int ((upd (upd (upd ov 0 n1) 1 n2) 2 n3) 13), .int ((upd (upd (upd ov 0 n1) 1 n2) 2 n3) 14)]))] := hD
  refine lv_aload_n hx hb dX7_set_15 rfl (lv_at hl 0 rfl) ?_
  refine lv_iload hx hb dX7_set_16 (lv_at hl 4 rfl) ?_
  refine va_put (D := D) (ci := 7) (v := .int n4) (ty := .int) (C := RX7) (T := TX7) (N := 15) hx hb ha inlX7 tyX7 tyX7_ok nmX7 hown hK hP hD hS 0 rfl rfl 3 (by decide) (ha _ kf_X7_21) (fun _ h9 => h9) rfl (by decide +kernel) rfl rfl (Nat.le_of_ble_eq_true rfl) dX7_set_18 (fun H locs hP hD hS => ?_)
  have hP : va_P D vwCl [(r0, .inr (7, [.int ((upd (upd (upd (upd ov 0 n1) 1 n2) 2 n3) 3 n4) 0), .int ((upd (upd (upd (upd ov 0 n1) 1 n2) 2 n3) 3 n4) 1), .int ((upd (upd (upd (upd ov 0 n1) 1 n2) 2 n3) 3 n4) 2), .int ((upd (upd (upd (upd ov 0 n1) 1 n2) 2 n3) 3 n4) 3), va_rf ol, .ref r1, .ref r2, .ref r3, .ref r4, .ref r5, .int ((upd (upd (upd (upd ov 0 n1) 1 n2) 2 n3) 3 n4) 10), .int ((upd (upd (upd (upd ov 0 n1) 1 n2) 2 n3) 3 n4) 11), .int ((upd (upd (upd (upd ov 0 n1) 1 n2) 2 n3) 3 n4) 12), .int ((upd (upd (upd (upd ov 0 n1) 1 n2) 2 n3) 3 n4) 13), .int ((upd (upd (upd (upd ov 0 n1) 1 n2) 2 n3) 3 n4) 14)]))] H := hP
  have hD : va_D A [(r0, .inr (7, [.int ((upd (upd (upd (upd ov 0 n1) 1 n2) 2 n3) 3 n4) 0), .int ((upd (upd (upd (upd ov 0 n1) 1 n2) 2 n3) 3 n4) 1), .int ((upd (upd (upd (upd ov 0 n1) 1 n2) 2 n3) 3 n4) 2), .int ((upd (upd (upd (upd ov 0 n1) 1 n2) 2 n3) 3 n4) 3), va_rf ol, .ref r1, .ref r2, .ref r3, .ref r4, .ref r5, .int ((upd (upd (upd (upd ov 0 n1) 1 n2) 2 n3) 3 n4) 10), .int ((upd (upd (upd (upd ov 0 n1) 1 n2) 2 n3) 3 n4) 11), .int ((upd (upd (upd (upd ov 0 n1) 1 n2) 2 n3) 3 n4) 12), .int ((upd (upd (upd (upd ov 0 n1) 1 n2) 2 n3) 3 n4) 13), .int ((upd (upd (upd (upd ov 0 n1) 1 n2) 2 n3) 3 n4) 14)]))] := hD
  have hP9 : va_P D vwCl [(r0, .inr (7, [.int ((upd (upd (upd (upd ov 0 n1) 1 n2) 2 n3) 3 n4) 0), .int ((upd (upd (upd (upd ov 0 n1) 1 n2) 2 n3) 3 n4) 1), .int ((upd (upd (upd (upd ov 0 n1) 1 n2) 2 n3) 3 n4) 2), .int ((upd (upd (upd (upd ov 0 n1) 1 n2) 2 n3) 3 n4) 3), va_rf ol, .ref r1, .ref r2, .ref r3, .ref r4, .ref r5, .int ((upd (upd (upd (upd ov 0 n1) 1 n2) 2 n3) 3 n4) 10), .int ((upd (upd (upd (upd ov 0 n1) 1 n2) 2 n3) 3 n4) 11), .int ((upd (upd (upd (upd ov 0 n1) 1 n2) 2 n3) 3 n4) 12), .int ((upd (upd (upd (upd ov 0 n1) 1 n2) 2 n3) 3 n4) 13), .int ((upd (upd (upd (upd ov 0 n1) 1 n2) 2 n3) 3 n4) 14)]))] _ := hP
  have hD9 : va_D A [(r0, .inr (7, [.int ((upd (upd (upd (upd ov 0 n1) 1 n2) 2 n3) 3 n4) 0), .int ((upd (upd (upd (upd ov 0 n1) 1 n2) 2 n3) 3 n4) 1), .int ((upd (upd (upd (upd ov 0 n1) 1 n2) 2 n3) 3 n4) 2), .int ((upd (upd (upd (upd ov 0 n1) 1 n2) 2 n3) 3 n4) 3), va_rf ol, .ref r1, .ref r2, .ref r3, .ref r4, .ref r5, .int ((upd (upd (upd (upd ov 0 n1) 1 n2) 2 n3) 3 n4) 10), .int ((upd (upd (upd (upd ov 0 n1) 1 n2) 2 n3) 3 n4) 11), .int ((upd (upd (upd (upd ov 0 n1) 1 n2) 2 n3) 3 n4) 12), .int ((upd (upd (upd (upd ov 0 n1) 1 n2) 2 n3) 3 n4) 13), .int ((upd (upd (upd (upd ov 0 n1) 1 n2) 2 n3) 3 n4) 14)]))] := hD
  exact W.vret hx hb hr (fun t ht hW => ⟨⟨(), rfl, trivial, ⟨by rw [ht]; exact hP9, va_K.moved hW.alike hK, hD9⟩⟩, hS.F ht⟩) hS.2.2 dX7_set_21
