set_option maxHeartbeats 4000000 in
set_option maxRecDepth 100000 in
theorem law_step {p : Program} {e : Env} {s : State} {m : MethodId} {below : List Frame} {meth : Method} {c : Code} (l : Launch) {b L0 : Nat} {xs : Nat → Int32} (C0 : lw_At p s m meth c b L0 xs) (hL : L0 ≤ 2560) (D : va_G) (cI cJ cZ cO : ClassId) (hK : va_K D vwCl (pw_ty cI cJ cZ cO) s) (hN : nw s) (b0 m0 : Nat) (mq : Nat → Nat) (k : Nat) (hk : k ≤ 512) (hLP : k < 512 → LWP p l e s m below meth c D cI cJ cZ cO b b0 m0 mq (k + 1)) : LWP p l e s m below meth c D cI cJ cZ cO b b0 m0 mq k := by
  intro n FX T nw ov tf FV FJ go gq gw ga ws mi ma cl H locs hC hcl hI hY hP hD hS ls hl
  obtain ⟨hx, hb, hr, hml, hown, hts0, hX, hbl, hlocks, hgv⟩ := id C0
  have ha : ∀ w ∈ wsL_law, w.before #[Value.ref b] s = true := fun w h => hts0 w (wsL_law_in w h)
  have hA : ∀ q : Nat, s.heap.size ≤ q → (fun q : Nat => s.heap.size ≤ q) q := fun _ h => h
  have hbA : ¬ (fun q : Nat => s.heap.size ≤ q) b := Nat.not_le.mpr hbl
  have hT8 := CWd_T hC
  refine lv_iload_n hx hb dL_law_18 rfl (lv_at hl 3 rfl) ?_
  refine lv_aload_n hx hb dL_law_19 rfl (lv_at hl 0 rfl) ?_
  refine va_slen hx hb hX hbl hbA hS dL_law_20 ?_
  refine lv_iconst (v := 5) hx hb dL_law_21 (by decide) ?_
  refine lv_isub hx hb dL_law_22 ?_
  refine lv_icmp_gt (tgt := 457) hx hb dL_law_23 (by decide) (fun c_1 => ?_) (fun c_1 => ?_)
  · refine lv_iconst (v := 1) hx hb dL_law_457 (by decide) ?_
    refine va_forget (fun q hq => hS.2.2 q hq) ?_
    refine W.widen (k := 600000) (n := 7302250) (by omega) (by omega) ?_
    exact lw_ret hx hb hr hlocks dL_law_458
  have kc_5 : (5 : Int32).toInt = 5 := by decide
  have t1 : (Int32.ofNat L0).toInt = (L0 : Int) := nI_toInt (n := L0) (by omega)
  have t0 : (nI (5 * k)).toInt = ((5 * k : Nat) : Int) := nI_toInt (by omega)
  have t2 := ti_sub (x := Int32.ofNat L0 - 5) rfl (by omega) (by omega)
  have t3 := Int32.le_iff_toInt_le.mp (Int32.not_lt.mp c_1)
  have h5 : 5 * k + 5 ≤ L0 := by omega
  have hk5 : k < 512 := by omega
  have hLP1 := hLP hk5
  obtain ⟨c2, hc2⟩ : ∃ y : Int, y = 512 - ((k + 1 : Nat) : Int) := ⟨_, rfl⟩
  have hI2 : MI 0 (c2 + 1) mi ma := by
    rw [show c2 + 1 = cl by omega]
    exact hI
  refine lv_aload_n hx hb dL_law_26 rfl (lv_at hl 0 rfl) ?_
  refine lv_iload_n hx hb dL_law_27 rfl (lv_at hl 3 rfl) ?_
  refine va_sld hx hb hX hbl hbA hS (vpi_of (by omega) (by omega)) dL_law_28 ?_
  refine lv_bipush (v := 15) hx hb dL_law_29 (by decide) ?_
  refine lv_iand hx hb dL_law_31 ?_
  refine lv_topi (fun y_ ey_ => ?_)
  by_cases t_0 : y_ = 0
  · refine lv_tableIn (tgt := 92) (off := 60) hx hb dL_law_32 (by rw [t_0]; decide) (by rw [t_0]; decide) (by rw [t_0]; rfl) (by decide) ?_
    exact law_case0 l C0 hL D cI cJ cZ cO hK hN b0 m0 mq k h5 hLP1 n FX T nw ov tf FV FJ go gq gw ga ws mi ma c2 H locs hC hc2 hI2 hY hP hD hS ls hl
  by_cases t_1 : y_ = 1
  · refine lv_tableIn (tgt := 145) (off := 113) hx hb dL_law_32 (by rw [t_1]; decide) (by rw [t_1]; decide) (by rw [t_1]; rfl) (by decide) ?_
    exact law_case1 l C0 hL D cI cJ cZ cO hK hN b0 m0 mq k h5 hLP1 n FX T nw ov tf FV FJ go gq gw ga ws mi ma c2 H locs hC hc2 hI2 hY hP hD hS ls hl
  by_cases t_2 : y_ = 2
  · refine lv_tableIn (tgt := 194) (off := 162) hx hb dL_law_32 (by rw [t_2]; decide) (by rw [t_2]; decide) (by rw [t_2]; rfl) (by decide) ?_
    exact law_case2 l C0 hL D cI cJ cZ cO hK hN b0 m0 mq k h5 hLP1 n FX T nw ov tf FV FJ go gq gw ga ws mi ma c2 H locs hC hc2 hI2 hY hP hD hS ls hl
  by_cases t_3 : y_ = 3
  · refine lv_tableIn (tgt := 227) (off := 195) hx hb dL_law_32 (by rw [t_3]; decide) (by rw [t_3]; decide) (by rw [t_3]; rfl) (by decide) ?_
    exact law_case3 l C0 hL D cI cJ cZ cO hK hN b0 m0 mq k h5 hLP1 n FX T nw ov tf FV FJ go gq gw ga ws mi ma c2 H locs hC hc2 hI2 hY hP hD hS ls hl
  by_cases t_4 : y_ = 4
  · refine lv_tableIn (tgt := 260) (off := 228) hx hb dL_law_32 (by rw [t_4]; decide) (by rw [t_4]; decide) (by rw [t_4]; rfl) (by decide) ?_
    exact law_case4 l C0 hL D cI cJ cZ cO hK hN b0 m0 mq k h5 hLP1 n FX T nw ov tf FV FJ go gq gw ga ws mi ma c2 H locs hC hc2 hI2 hY hP hD hS ls hl
  by_cases t_5 : y_ = 5
  · refine lv_tableIn (tgt := 283) (off := 251) hx hb dL_law_32 (by rw [t_5]; decide) (by rw [t_5]; decide) (by rw [t_5]; rfl) (by decide) ?_
    exact law_case5 l C0 hL D cI cJ cZ cO hK hN b0 m0 mq k h5 hLP1 n FX T nw ov tf FV FJ go gq gw ga ws mi ma c2 H locs hC hc2 hI2 hY hP hD hS ls hl
  by_cases t_6 : y_ = 6
  · refine lv_tableIn (tgt := 306) (off := 274) hx hb dL_law_32 (by rw [t_6]; decide) (by rw [t_6]; decide) (by rw [t_6]; rfl) (by decide) ?_
    exact law_case6 l C0 hL D cI cJ cZ cO hK hN b0 m0 mq k h5 hLP1 n FX T nw ov tf FV FJ go gq gw ga ws mi ma c2 H locs hC hc2 hI2 hY hP hD hS ls hl
  by_cases t_7 : y_ = 7
  · refine lv_tableIn (tgt := 339) (off := 307) hx hb dL_law_32 (by rw [t_7]; decide) (by rw [t_7]; decide) (by rw [t_7]; rfl) (by decide) ?_
    exact law_case7 l C0 hL D cI cJ cZ cO hK hN b0 m0 mq k h5 hLP1 n FX T nw ov tf FV FJ go gq gw ga ws mi ma c2 H locs hC hc2 hI2 hY hP hD hS ls hl
  by_cases t_8 : y_ = 8
  · refine lv_tableIn (tgt := 372) (off := 340) hx hb dL_law_32 (by rw [t_8]; decide) (by rw [t_8]; decide) (by rw [t_8]; rfl) (by decide) ?_
    exact law_case8 l C0 hL D cI cJ cZ cO hK hN b0 m0 mq k h5 hLP1 n FX T nw ov tf FV FJ go gq gw ga ws mi ma c2 H locs hC hc2 hI2 hY hP hD hS ls hl
  by_cases t_9 : y_ = 9
  · refine lv_tableIn (tgt := 405) (off := 373) hx hb dL_law_32 (by rw [t_9]; decide) (by rw [t_9]; decide) (by rw [t_9]; rfl) (by decide) ?_
    exact law_case9 l C0 hL D cI cJ cZ cO hK hN b0 m0 mq k h5 hLP1 n FX T nw ov tf FV FJ go gq gw ga ws mi ma c2 H locs hC hc2 hI2 hY hP hD hS ls hl
  by_cases t_10 : y_ = 10
  · refine lv_tableIn (tgt := 428) (off := 396) hx hb dL_law_32 (by rw [t_10]; decide) (by rw [t_10]; decide) (by rw [t_10]; rfl) (by decide) ?_
    exact law_case10 l C0 hL D cI cJ cZ cO hK hN b0 m0 mq k h5 hLP1 n FX T nw ov tf FV FJ go gq gw ga ws mi ma c2 H locs hC hc2 hI2 hY hP hD hS ls hl
  refine lv_tableOut (tgt := 451) hx hb dL_law_32 (by have h0 := lv_neT (a := 0) t_0 (by decide); have h1 := lv_neT (a := 1) t_1 (by decide); have h2 := lv_neT (a := 2) t_2 (by decide); have h3 := lv_neT (a := 3) t_3 (by decide); have h4 := lv_neT (a := 4) t_4 (by decide); have h5 := lv_neT (a := 5) t_5 (by decide); have h6 := lv_neT (a := 6) t_6 (by decide); have h7 := lv_neT (a := 7) t_7 (by decide); have h8 := lv_neT (a := 8) t_8 (by decide); have h9 := lv_neT (a := 9) t_9 (by decide); have h10 := lv_neT (a := 10) t_10 (by decide); omega) (by decide) ?_
  exact law_tail l C0 hL D cI cJ cZ cO hK hN b0 m0 mq k hk5 hLP1 n FX T nw ov tf FV FJ go gq gw ga ws mi ma c2 H locs hC hc2 (MI_cl hI2) hY hP hD hS _ _ (by omega) (by omega) _ rfl ls hl
theorem law_all {p : Program} {e : Env} {s : State} {m : MethodId} {below : List Frame} {meth : Method} {c : Code} (l : Launch) {b L0 : Nat} {xs : Nat → Int32} (C0 : lw_At p s m meth c b L0 xs) (hL : L0 ≤ 2560) (D : va_G) (cI cJ cZ cO : ClassId) (hK : va_K D vwCl (pw_ty cI cJ cZ cO) s) (hN : nw s) (b0 m0 : Nat) (mq : Nat → Nat) : ∀ (j k : Nat), k + j = 512 → LWP p l e s m below meth c D cI cJ cZ cO b b0 m0 mq k
  | 0, k, h => law_step l C0 hL D cI cJ cZ cO hK hN b0 m0 mq k (by omega) (fun q => absurd q (by omega))
  | j + 1, k, h => law_step l C0 hL D cI cJ cZ cO hK hN b0 m0 mq k (by omega) (fun _ => law_all l C0 hL D cI cJ cZ cO hK hN b0 m0 mq j (k + 1) (by omega))
