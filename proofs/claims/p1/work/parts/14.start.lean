set_option maxHeartbeats 4000000 in
set_option maxRecDepth 100000 in
/-- THE LAW, from its entry -/
theorem whole_start {p : Program} {e : Env} {s : State} {m : MethodId} {below : List Frame} {meth : Method} {c : Code} (l : Launch) {b L : Nat} {xs : Nat → Int32} (hL : L ≤ 5) (C0 : lw_At p s m meth c b L xs) : W p l e room_1 s m #[Value.ref b] below meth c s.heap [] 0 0 (lw_Z below #[Value.ref b] s) (entryFrame m ([Value.ref b] : List Value).toArray 4) := by
  obtain ⟨hx, hb, hr, hml, hown, hts0, hX, hbl, hlocks, hgv⟩ := id C0
  have ha : ∀ w ∈ wsL_law, w.before #[Value.ref b] s = true := fun w h => hts0 w (wsL_law_in w h)
  have hA : ∀ q : Nat, s.heap.size ≤ q → (fun q : Nat => s.heap.size ≤ q) q := fun _ h => h
  have hbA : ¬ (fun q : Nat => s.heap.size ≤ q) b := Nat.not_le.mpr hbl
  obtain ⟨D, cI, cJ, cZ, cO, hK⟩ := pw_K hts0
  have hN : nw s := nw_of hts0
  have hS : va_S (fun q : Nat => s.heap.size ≤ q) s.heap s.heap [] := va_S.rf
  have hP : va_P D vwCl [] s.heap := pw_P0
  have hD : va_D (fun q : Nat => s.heap.size ≤ q) [] := pw_D0
  have hl := lv_entry ([.ref b]) (n := 4) (Nat.le_of_ble_eq_true rfl)
  rw [lg_entry_eq]
  generalize (lg_sl ([.ref b]) ++ List.replicate (4 - (lg_sl ([.ref b])).length) Slot.unset).toArray = ls at hl ⊢
  have hl : lv_has ls 4 [(0, .ref b)] := hl
  refine va_new (ci := 10) (fs := [.null, .null, .int 0]) (C := RX10) (T := TX10) (N := 3) hx hb ha inlX10 tyX10 tyX10_ok hown (ha _ kc_L_7) (ha _ ki_X10) (ha _ kz_X10) hK hP hD hS hA rfl (by decide) (Nat.le_of_ble_eq_true rfl) (Nat.le_of_ble_eq_true rfl) dL_law_0 (fun q_1 H hP hD hS => ?_)
  have hP : va_P D vwCl [(q_1, .inr (10, [.null, .null, .int 0]))] H := hP
  have hD : va_D (fun q : Nat => s.heap.size ≤ q) [(q_1, .inr (10, [.null, .null, .int 0]))] := hD
  refine W.widen (k := 1) (n := 3) (Nat.le_of_ble_eq_true rfl) (Nat.le_of_ble_eq_true rfl) ?_
  refine lv_dup hx hb dL_law_3 rfl ?_
  have hPc := hP.sub (ws' := [(q_1, .inr (10, [.null, .null, .int 0]))]) [0] rfl
  have hDc := hD.sub (ws' := [(q_1, .inr (10, [.null, .null, .int 0]))]) [0] (by decide) rfl
  have hFc := va_free (wc := [(q_1, .inr (10, [.null, .null, .int 0]))]) hD hS hA [0] rfl
  refine va_callv (va_runI (As := []) (rest := [.ref q_1]) ⟨hx, hb, hml, hown, ha⟩ (c_CB l D cI cJ cZ cO _ q_1) (cwI 0 ha (gaI kd_X10_init) rfl rfl rfl (ha _ kz_X10) (ha _ kl_L_9) (ha _ km_X10_init) rfl (by decide +kernel) ⟨Nat.le_of_ble_eq_true rfl, Nat.le_of_ble_eq_true rfl⟩) ⟨pw_blind, fun U hU hW => ⟨rfl, pw_start hU hW hPc hK hDc hN⟩⟩ rfl rfl hl.1 rfl (lv_room (Nat.le_of_ble_eq_true rfl)) dL_law_4 ⟨Nat.le_of_ble_eq_true rfl, Nat.le_of_ble_eq_true rfl⟩) hS (fun q _ h => hFc q h) hFc (fun u t H1 locs ht hvm hw hB hz1 hk1 hS => ?_)
  obtain ⟨q_3, q_4, q_5, q_6, q_7, q_8, q_9, hP1, hK1, hD1⟩ := hB
  rw [ht] at hP1
  obtain ⟨hP, hD⟩ := va_join (wr := []) (w1 := [(q_1, .inr (10, [.ref q_3, .ref q_9, .int 0])), (q_3, .inr (7, [.int 10, .int 20, .int 20, .int 20, .null, .ref q_4, .ref q_5, .ref q_6, .ref q_7, .ref q_8, .int 0, .int 0, .int 0, .int 0, .int 0])), (q_4, .inr (1, [.null, .null, .int 0])), (q_5, .inr (1, [.null, .null, .int 0])), (q_6, .inr (1, [.null, .null, .int 0])), (q_7, .inr (1, [.null, .null, .int 0])), (q_8, .inl (cI, 64, .inl (fun _ => 0))), (q_9, .inl (cO, 0, .inr (.inr (.inr (.inr (fun _ => none))))))]) hP hD [0] [] rfl rfl (by decide) (by decide) hk1 hFc hP1 hD1
  generalize H1 = H at hP hS ⊢
  have hP : va_P D vwCl [(q_1, .inr (10, [.ref q_3, .ref q_9, .int 0])), (q_3, .inr (7, [.int 10, .int 20, .int 20, .int 20, .null, .ref q_4, .ref q_5, .ref q_6, .ref q_7, .ref q_8, .int 0, .int 0, .int 0, .int 0, .int 0])), (q_4, .inr (1, [.null, .null, .int 0])), (q_5, .inr (1, [.null, .null, .int 0])), (q_6, .inr (1, [.null, .null, .int 0])), (q_7, .inr (1, [.null, .null, .int 0])), (q_8, .inl (cI, 64, .inl (fun _ => 0))), (q_9, .inl (cO, 0, .inr (.inr (.inr (.inr (fun _ => none))))))] H := hP
  have hD : va_D (fun q : Nat => s.heap.size ≤ q) [(q_1, .inr (10, [.ref q_3, .ref q_9, .int 0])), (q_3, .inr (7, [.int 10, .int 20, .int 20, .int 20, .null, .ref q_4, .ref q_5, .ref q_6, .ref q_7, .ref q_8, .int 0, .int 0, .int 0, .int 0, .int 0])), (q_4, .inr (1, [.null, .null, .int 0])), (q_5, .inr (1, [.null, .null, .int 0])), (q_6, .inr (1, [.null, .null, .int 0])), (q_7, .inr (1, [.null, .null, .int 0])), (q_8, .inl (cI, 64, .inl (fun _ => 0))), (q_9, .inl (cO, 0, .inr (.inr (.inr (.inr (fun _ => none))))))] := hD
  refine W.widen (k := 8) (n := 94) (Nat.le_of_ble_eq_true rfl) (Nat.le_of_ble_eq_true rfl) ?_
  refine lv_astore_n (lv' := [(1, .ref q_1), (0, .ref b)]) hx hb dL_law_7 rfl hl (by decide) rfl (fun ls hl => ?_)
  refine va_new (ci := 11) (fs := [.int 0, .int 0, .int 0, .int 0, .int 0, .int 0, .int 0, .null, .null, .null, .int 0, .int 0, .int 0, .null, .null, .null, .null, .int 0, .int 0, .int 0, .null, .null, .null, .null, .null, .null, .int 0, .int 0, .int 0, .int 0, .int 0, .null, .int 0, .null, .null, .null, .null, .null, .null, .null, .null, .null, .null, .null, .null, .null, .null, .null, .null, .null, .null, .null, .null, .null, .null, .null, .null, .null, .null, .null, .null, .null, .null, .null, .null, .null, .null, .null, .null, .null, .null, .null, .null, .int 0]) (C := RX11) (T := TX11) (N := 74) hx hb ha inlX11 tyX11 tyX11_ok hown (ha _ kc_L_10) (ha _ ki_X11) (ha _ kz_X11) hK hP hD hS hA rfl (by decide) (Nat.le_of_ble_eq_true rfl) (Nat.le_of_ble_eq_true rfl) dL_law_8 (fun q_10 H hP hD hS => ?_)
  have hP : va_P D vwCl [(q_1, .inr (10, [.ref q_3, .ref q_9, .int 0])), (q_3, .inr (7, [.int 10, .int 20, .int 20, .int 20, .null, .ref q_4, .ref q_5, .ref q_6, .ref q_7, .ref q_8, .int 0, .int 0, .int 0, .int 0, .int 0])), (q_4, .inr (1, [.null, .null, .int 0])), (q_5, .inr (1, [.null, .null, .int 0])), (q_6, .inr (1, [.null, .null, .int 0])), (q_7, .inr (1, [.null, .null, .int 0])), (q_8, .inl (cI, 64, .inl (fun _ => 0))), (q_9, .inl (cO, 0, .inr (.inr (.inr (.inr (fun _ => none)))))), (q_10, .inr (11, [.int 0, .int 0, .int 0, .int 0, .int 0, .int 0, .int 0, .null, .null, .null, .int 0, .int 0, .int 0, .null, .null, .null, .null, .int 0, .int 0, .int 0, .null, .null, .null, .null, .null, .null, .int 0, .int 0, .int 0, .int 0, .int 0, .null, .int 0, .null, .null, .null, .null, .null, .null, .null, .null, .null, .null, .null, .null, .null, .null, .null, .null, .null, .null, .null, .null, .null, .null, .null, .null, .null, .null, .null, .null, .null, .null, .null, .null, .null, .null, .null, .null, .null, .null, .null, .null, .int 0]))] H := hP
  have hD : va_D (fun q : Nat => s.heap.size ≤ q) [(q_1, .inr (10, [.ref q_3, .ref q_9, .int 0])), (q_3, .inr (7, [.int 10, .int 20, .int 20, .int 20, .null, .ref q_4, .ref q_5, .ref q_6, .ref q_7, .ref q_8, .int 0, .int 0, .int 0, .int 0, .int 0])), (q_4, .inr (1, [.null, .null, .int 0])), (q_5, .inr (1, [.null, .null, .int 0])), (q_6, .inr (1, [.null, .null, .int 0])), (q_7, .inr (1, [.null, .null, .int 0])), (q_8, .inl (cI, 64, .inl (fun _ => 0))), (q_9, .inl (cO, 0, .inr (.inr (.inr (.inr (fun _ => none)))))), (q_10, .inr (11, [.int 0, .int 0, .int 0, .int 0, .int 0, .int 0, .int 0, .null, .null, .null, .int 0, .int 0, .int 0, .null, .null, .null, .null, .int 0, .int 0, .int 0, .null, .null, .null, .null, .null, .null, .int 0, .int 0, .int 0, .int 0, .int 0, .null, .int 0, .null, .null, .null, .null, .null, .null, .null, .null, .null, .null, .null, .null, .null, .null, .null, .null, .null, .null, .null, .null, .null, .null, .null, .null, .null, .null, .null, .null, .null, .null, .null, .null, .null, .null, .null, .null, .null, .null, .null, .null, .int 0]))] := hD
  refine W.widen (k := 9) (n := 168) (Nat.le_of_ble_eq_true rfl) (Nat.le_of_ble_eq_true rfl) ?_
  refine lv_dup hx hb dL_law_11 rfl ?_
  have hPc := hP.sub (ws' := [(q_10, .inr (11, [.int 0, .int 0, .int 0, .int 0, .int 0, .int 0, .int 0, .null, .null, .null, .int 0, .int 0, .int 0, .null, .null, .null, .null, .int 0, .int 0, .int 0, .null, .null, .null, .null, .null, .null, .int 0, .int 0, .int 0, .int 0, .int 0, .null, .int 0, .null, .null, .null, .null, .null, .null, .null, .null, .null, .null, .null, .null, .null, .null, .null, .null, .null, .null, .null, .null, .null, .null, .null, .null, .null, .null, .null, .null, .null, .null, .null, .null, .null, .null, .null, .null, .null, .null, .null, .null, .int 0]))]) [8] rfl
  have hDc := hD.sub (ws' := [(q_10, .inr (11, [.int 0, .int 0, .int 0, .int 0, .int 0, .int 0, .int 0, .null, .null, .null, .int 0, .int 0, .int 0, .null, .null, .null, .null, .int 0, .int 0, .int 0, .null, .null, .null, .null, .null, .null, .int 0, .int 0, .int 0, .int 0, .int 0, .null, .int 0, .null, .null, .null, .null, .null, .null, .null, .null, .null, .null, .null, .null, .null, .null, .null, .null, .null, .null, .null, .null, .null, .null, .null, .null, .null, .null, .null, .null, .null, .null, .null, .null, .null, .null, .null, .null, .null, .null, .null, .null, .int 0]))]) [8] (by decide) rfl
  have hFc := va_free (wc := [(q_10, .inr (11, [.int 0, .int 0, .int 0, .int 0, .int 0, .int 0, .int 0, .null, .null, .null, .int 0, .int 0, .int 0, .null, .null, .null, .null, .int 0, .int 0, .int 0, .null, .null, .null, .null, .null, .null, .int 0, .int 0, .int 0, .int 0, .int 0, .null, .int 0, .null, .null, .null, .null, .null, .null, .null, .null, .null, .null, .null, .null, .null, .null, .null, .null, .null, .null, .null, .null, .null, .null, .null, .null, .null, .null, .null, .null, .null, .null, .null, .null, .null, .null, .null, .null, .null, .null, .null, .null, .int 0]))]) hD hS hA [8] rfl
  refine va_callv (va_runI (As := []) (rest := [.ref q_10]) ⟨hx, hb, hml, hown, ha⟩ (c_Model l D cI cJ cZ cO _ q_10) (cwI 0 ha (gaI kd_X11_init) rfl rfl rfl (ha _ kz_X11) (ha _ kl_L_12) (ha _ km_X11_init) rfl (by decide +kernel) ⟨Nat.le_of_ble_eq_true rfl, Nat.le_of_ble_eq_true rfl⟩) ⟨pw_blind, fun U hU hW => ⟨rfl, pw_start hU hW hPc hK hDc hN⟩⟩ rfl rfl hl.1 rfl (lv_room (Nat.le_of_ble_eq_true rfl)) dL_law_12 ⟨Nat.le_of_ble_eq_true rfl, Nat.le_of_ble_eq_true rfl⟩) hS (fun q _ h => hFc q h) hFc (fun u t H1 locs ht hvm hw hB hz1 hk1 hS => ?_)
  obtain ⟨q_12, hP1, hK1, hD1⟩ := hB
  rw [ht] at hP1
  obtain ⟨hP, hD⟩ := va_join (wr := [(q_1, .inr (10, [.ref q_3, .ref q_9, .int 0])), (q_3, .inr (7, [.int 10, .int 20, .int 20, .int 20, .null, .ref q_4, .ref q_5, .ref q_6, .ref q_7, .ref q_8, .int 0, .int 0, .int 0, .int 0, .int 0])), (q_4, .inr (1, [.null, .null, .int 0])), (q_5, .inr (1, [.null, .null, .int 0])), (q_6, .inr (1, [.null, .null, .int 0])), (q_7, .inr (1, [.null, .null, .int 0])), (q_8, .inl (cI, 64, .inl (fun _ => 0))), (q_9, .inl (cO, 0, .inr (.inr (.inr (.inr (fun _ => none))))))]) (w1 := [(q_10, .inr (11, [.int 10, .int 20, .int 20, .int 20, .int 0, .int 0, .int 0, .ref (q_12 7), .ref (q_12 8), .ref (q_12 9), .int 0, .int 0, .int 0, .ref (q_12 13), .ref (q_12 14), .ref (q_12 15), .ref (q_12 16), .int 0, .int 0, .int 0, .ref (q_12 20), .ref (q_12 21), .ref (q_12 22), .ref (q_12 23), .ref (q_12 24), .ref (q_12 25), .int 0, .int 0, .int 0, .int 0, .int 0, .ref (q_12 31), .int 0, .ref (q_12 33), .ref (q_12 34), .ref (q_12 35), .ref (q_12 36), .ref (q_12 37), .ref (q_12 38), .ref (q_12 39), .ref (q_12 40), .ref (q_12 41), .ref (q_12 42), .ref (q_12 43), .ref (q_12 44), .ref (q_12 45), .ref (q_12 46), .ref (q_12 47), .ref (q_12 48), .ref (q_12 49), .ref (q_12 50), .ref (q_12 51), .ref (q_12 52), .ref (q_12 53), .ref (q_12 54), .ref (q_12 55), .ref (q_12 56), .ref (q_12 57), .ref (q_12 58), .ref (q_12 59), .ref (q_12 60), .ref (q_12 61), .ref (q_12 62), .ref (q_12 63), .ref (q_12 64), .ref (q_12 65), .ref (q_12 66), .ref (q_12 67), .ref (q_12 68), .ref (q_12 69), .ref (q_12 70), .ref (q_12 71), .ref (q_12 72), .int 0])), ((q_12 31), .inl (cI, 64, .inl (fun _ => 0))), ((q_12 33), .inl (cZ, 4, .inl (fun _ => 0))), ((q_12 35), .inl (cI, 4, .inl (fun _ => 0))), ((q_12 40), .inl (cI, 4, .inl (fun _ => 0))), ((q_12 42), .inl (cI, 4, .inl (fun _ => 0))), ((q_12 47), .inl (cI, 4, .inl (fun _ => 0))), ((q_12 68), .inl (cI, 4, .inl (fun _ => 0))), ((q_12 48), .inl (cI, 4, .inl (fun _ => 0))), ((q_12 49), .inl (cI, 4, .inl (fun _ => 0))), ((q_12 60), .inl (cI, 4, .inl (fun _ => 0))), ((q_12 61), .inl (cI, 4, .inl (fun _ => 0))), ((q_12 67), .inl (cI, 4, .inl (fun _ => 0))), ((q_12 69), .inl (cI, 4, .inl (fun _ => 0))), ((q_12 56), .inl (cI, 4, .inl (fun _ => 0)))]) hP hD [8] [0, 1, 2, 3, 4, 5, 6, 7] rfl rfl (by decide) (by decide) hk1 hFc hP1 hD1
  generalize H1 = H at hP hS ⊢
  have hP : va_P D vwCl [(q_1, .inr (10, [.ref q_3, .ref q_9, .int 0])), (q_3, .inr (7, [.int 10, .int 20, .int 20, .int 20, .null, .ref q_4, .ref q_5, .ref q_6, .ref q_7, .ref q_8, .int 0, .int 0, .int 0, .int 0, .int 0])), (q_4, .inr (1, [.null, .null, .int 0])), (q_5, .inr (1, [.null, .null, .int 0])), (q_6, .inr (1, [.null, .null, .int 0])), (q_7, .inr (1, [.null, .null, .int 0])), (q_8, .inl (cI, 64, .inl (fun _ => 0))), (q_9, .inl (cO, 0, .inr (.inr (.inr (.inr (fun _ => none)))))), (q_10, .inr (11, [.int 10, .int 20, .int 20, .int 20, .int 0, .int 0, .int 0, .ref (q_12 7), .ref (q_12 8), .ref (q_12 9), .int 0, .int 0, .int 0, .ref (q_12 13), .ref (q_12 14), .ref (q_12 15), .ref (q_12 16), .int 0, .int 0, .int 0, .ref (q_12 20), .ref (q_12 21), .ref (q_12 22), .ref (q_12 23), .ref (q_12 24), .ref (q_12 25), .int 0, .int 0, .int 0, .int 0, .int 0, .ref (q_12 31), .int 0, .ref (q_12 33), .ref (q_12 34), .ref (q_12 35), .ref (q_12 36), .ref (q_12 37), .ref (q_12 38), .ref (q_12 39), .ref (q_12 40), .ref (q_12 41), .ref (q_12 42), .ref (q_12 43), .ref (q_12 44), .ref (q_12 45), .ref (q_12 46), .ref (q_12 47), .ref (q_12 48), .ref (q_12 49), .ref (q_12 50), .ref (q_12 51), .ref (q_12 52), .ref (q_12 53), .ref (q_12 54), .ref (q_12 55), .ref (q_12 56), .ref (q_12 57), .ref (q_12 58), .ref (q_12 59), .ref (q_12 60), .ref (q_12 61), .ref (q_12 62), .ref (q_12 63), .ref (q_12 64), .ref (q_12 65), .ref (q_12 66), .ref (q_12 67), .ref (q_12 68), .ref (q_12 69), .ref (q_12 70), .ref (q_12 71), .ref (q_12 72), .int 0])), ((q_12 31), .inl (cI, 64, .inl (fun _ => 0))), ((q_12 33), .inl (cZ, 4, .inl (fun _ => 0))), ((q_12 35), .inl (cI, 4, .inl (fun _ => 0))), ((q_12 40), .inl (cI, 4, .inl (fun _ => 0))), ((q_12 42), .inl (cI, 4, .inl (fun _ => 0))), ((q_12 47), .inl (cI, 4, .inl (fun _ => 0))), ((q_12 68), .inl (cI, 4, .inl (fun _ => 0))), ((q_12 48), .inl (cI, 4, .inl (fun _ => 0))), ((q_12 49), .inl (cI, 4, .inl (fun _ => 0))), ((q_12 60), .inl (cI, 4, .inl (fun _ => 0))), ((q_12 61), .inl (cI, 4, .inl (fun _ => 0))), ((q_12 67), .inl (cI, 4, .inl (fun _ => 0))), ((q_12 69), .inl (cI, 4, .inl (fun _ => 0))), ((q_12 56), .inl (cI, 4, .inl (fun _ => 0)))] H := hP
  have hD : va_D (fun q : Nat => s.heap.size ≤ q) [(q_1, .inr (10, [.ref q_3, .ref q_9, .int 0])), (q_3, .inr (7, [.int 10, .int 20, .int 20, .int 20, .null, .ref q_4, .ref q_5, .ref q_6, .ref q_7, .ref q_8, .int 0, .int 0, .int 0, .int 0, .int 0])), (q_4, .inr (1, [.null, .null, .int 0])), (q_5, .inr (1, [.null, .null, .int 0])), (q_6, .inr (1, [.null, .null, .int 0])), (q_7, .inr (1, [.null, .null, .int 0])), (q_8, .inl (cI, 64, .inl (fun _ => 0))), (q_9, .inl (cO, 0, .inr (.inr (.inr (.inr (fun _ => none)))))), (q_10, .inr (11, [.int 10, .int 20, .int 20, .int 20, .int 0, .int 0, .int 0, .ref (q_12 7), .ref (q_12 8), .ref (q_12 9), .int 0, .int 0, .int 0, .ref (q_12 13), .ref (q_12 14), .ref (q_12 15), .ref (q_12 16), .int 0, .int 0, .int 0, .ref (q_12 20), .ref (q_12 21), .ref (q_12 22), .ref (q_12 23), .ref (q_12 24), .ref (q_12 25), .int 0, .int 0, .int 0, .int 0, .int 0, .ref (q_12 31), .int 0, .ref (q_12 33), .ref (q_12 34), .ref (q_12 35), .ref (q_12 36), .ref (q_12 37), .ref (q_12 38), .ref (q_12 39), .ref (q_12 40), .ref (q_12 41), .ref (q_12 42), .ref (q_12 43), .ref (q_12 44), .ref (q_12 45), .ref (q_12 46), .ref (q_12 47), .ref (q_12 48), .ref (q_12 49), .ref (q_12 50), .ref (q_12 51), .ref (q_12 52), .ref (q_12 53), .ref (q_12 54), .ref (q_12 55), .ref (q_12 56), .ref (q_12 57), .ref (q_12 58), .ref (q_12 59), .ref (q_12 60), .ref (q_12 61), .ref (q_12 62), .ref (q_12 63), .ref (q_12 64), .ref (q_12 65), .ref (q_12 66), .ref (q_12 67), .ref (q_12 68), .ref (q_12 69), .ref (q_12 70), .ref (q_12 71), .ref (q_12 72), .int 0])), ((q_12 31), .inl (cI, 64, .inl (fun _ => 0))), ((q_12 33), .inl (cZ, 4, .inl (fun _ => 0))), ((q_12 35), .inl (cI, 4, .inl (fun _ => 0))), ((q_12 40), .inl (cI, 4, .inl (fun _ => 0))), ((q_12 42), .inl (cI, 4, .inl (fun _ => 0))), ((q_12 47), .inl (cI, 4, .inl (fun _ => 0))), ((q_12 68), .inl (cI, 4, .inl (fun _ => 0))), ((q_12 48), .inl (cI, 4, .inl (fun _ => 0))), ((q_12 49), .inl (cI, 4, .inl (fun _ => 0))), ((q_12 60), .inl (cI, 4, .inl (fun _ => 0))), ((q_12 61), .inl (cI, 4, .inl (fun _ => 0))), ((q_12 67), .inl (cI, 4, .inl (fun _ => 0))), ((q_12 69), .inl (cI, 4, .inl (fun _ => 0))), ((q_12 56), .inl (cI, 4, .inl (fun _ => 0)))] := hD
  refine W.widen (k := 63) (n := 1250718) (Nat.le_of_ble_eq_true rfl) (Nat.le_of_ble_eq_true rfl) ?_
  refine lv_astore_n (lv' := [(2, .ref q_10), (1, .ref q_1), (0, .ref b)]) hx hb dL_law_15 rfl hl (by decide) rfl (fun ls hl => ?_)
  refine lv_iconst (v := 0) hx hb dL_law_16 (by decide) ?_
  refine lv_istore_n (lv' := [(3, .int 0), (2, .ref q_10), (1, .ref q_1), (0, .ref b)]) hx hb dL_law_17 rfl hl (by decide) rfl (fun ls hl => ?_)
  refine lv_iload_n hx hb dL_law_18 rfl (lv_at hl 0 rfl) ?_
  refine lv_aload_n hx hb dL_law_19 rfl (lv_at hl 3 rfl) ?_
  refine va_slen hx hb hX hbl hbA hS dL_law_20 ?_
  refine lv_iconst (v := 5) hx hb dL_law_21 (by decide) ?_
  refine lv_isub hx hb dL_law_22 ?_
  refine lv_icmp_gt (tgt := 457) hx hb dL_law_23 (by decide) (fun c_1 => ?_) (fun c_1 => ?_)
  · refine lv_iconst (v := 1) hx hb dL_law_457 (by decide) ?_
    refine va_forget (fun q hq => hS.2.2 q hq) ?_
    refine W.widen (k := 600000) (n := 7302250) (Nat.le_of_ble_eq_true rfl) (Nat.le_of_ble_eq_true rfl) ?_
    exact lw_ret hx hb hr hlocks dL_law_458
  obtain rfl : L = 5 := by
    rcases (show L = 0 ∨ L = 1 ∨ L = 2 ∨ L = 3 ∨ L = 4 ∨ L = 5 by omega) with rfl | rfl | rfl | rfl | rfl | rfl <;> first | rfl | exact absurd (by decide) c_1
  refine lv_aload_n hx hb dL_law_26 rfl (lv_at hl 3 rfl) ?_
  refine lv_iload_n hx hb dL_law_27 rfl (lv_at hl 0 rfl) ?_
  refine va_sld hx hb hX hbl hbA hS (by unfold vp_in; decide) dL_law_28 ?_
  refine lv_bipush (v := 15) hx hb dL_law_29 (by decide) ?_
  refine lv_iand hx hb dL_law_31 ?_
  refine lv_topi (fun v_13 ev_13 => ?_)
  have hP9 := hP.sub (ws' := [(q_1, .inr (10, [.ref q_3, .ref q_9, .int 0])), (q_3, .inr (7, [.int 10, .int 20, .int 20, .int 20, .null, .ref q_4, .ref q_5, .ref q_6, .ref q_7, .ref q_8, .int 0, .int 0, .int 0, .int 0, .int 0])), (q_4, .inr (1, [.null, .null, .int 0])), (q_5, .inr (1, [.null, .null, .int 0])), (q_6, .inr (1, [.null, .null, .int 0])), (q_7, .inr (1, [.null, .null, .int 0])), (q_8, .inl (cI, 64, .inl (fun _ => 0))), (q_9, .inl (cO, 0, .inr (.inr (.inr (.inr (fun _ => none)))))), (q_10, .inr (11, [.int 10, .int 20, .int 20, .int 20, .int 0, .int 0, .int 0, .ref (q_12 7), .ref (q_12 8), .ref (q_12 9), .int 0, .int 0, .int 0, .ref (q_12 13), .ref (q_12 14), .ref (q_12 15), .ref (q_12 16), .int 0, .int 0, .int 0, .ref (q_12 20), .ref (q_12 21), .ref (q_12 22), .ref (q_12 23), .ref (q_12 24), .ref (q_12 25), .int 0, .int 0, .int 0, .int 0, .int 0, .ref (q_12 31), .int 0, .ref (q_12 33), .ref (q_12 34), .ref (q_12 35), .ref (q_12 36), .ref (q_12 37), .ref (q_12 38), .ref (q_12 39), .ref (q_12 40), .ref (q_12 41), .ref (q_12 42), .ref (q_12 43), .ref (q_12 44), .ref (q_12 45), .ref (q_12 46), .ref (q_12 47), .ref (q_12 48), .ref (q_12 49), .ref (q_12 50), .ref (q_12 51), .ref (q_12 52), .ref (q_12 53), .ref (q_12 54), .ref (q_12 55), .ref (q_12 56), .ref (q_12 57), .ref (q_12 58), .ref (q_12 59), .ref (q_12 60), .ref (q_12 61), .ref (q_12 62), .ref (q_12 63), .ref (q_12 64), .ref (q_12 65), .ref (q_12 66), .ref (q_12 67), .ref (q_12 68), .ref (q_12 69), .ref (q_12 70), .ref (q_12 71), .ref (q_12 72), .int 0])), ((q_12 31), .inl (cI, 64, .inl (fun _ => 0))), ((q_12 33), .inl (cZ, 4, .inl (fun _ => 0))), ((q_12 35), .inl (cI, 4, .inl (fun _ => 0))), ((q_12 40), .inl (cI, 4, .inl (fun _ => 0))), ((q_12 42), .inl (cI, 4, .inl (fun _ => 0))), ((q_12 47), .inl (cI, 4, .inl (fun _ => 0))), ((q_12 68), .inl (cI, 4, .inl (fun _ => 0))), ((q_12 48), .inl (cI, 4, .inl (fun _ => 0))), ((q_12 49), .inl (cI, 4, .inl (fun _ => 0))), ((q_12 60), .inl (cI, 4, .inl (fun _ => 0))), ((q_12 61), .inl (cI, 4, .inl (fun _ => 0))), ((q_12 67), .inl (cI, 4, .inl (fun _ => 0))), ((q_12 69), .inl (cI, 4, .inl (fun _ => 0))), ((q_12 56), .inl (cI, 4, .inl (fun _ => 0)))]) [0, 1, 2, 3, 4, 5, 6, 7, 8, 9, 10, 11, 12, 13, 14, 15, 16, 17, 18, 19, 20, 21, 22] rfl
  have hD9 := hD.sub (ws' := [(q_1, .inr (10, [.ref q_3, .ref q_9, .int 0])), (q_3, .inr (7, [.int 10, .int 20, .int 20, .int 20, .null, .ref q_4, .ref q_5, .ref q_6, .ref q_7, .ref q_8, .int 0, .int 0, .int 0, .int 0, .int 0])), (q_4, .inr (1, [.null, .null, .int 0])), (q_5, .inr (1, [.null, .null, .int 0])), (q_6, .inr (1, [.null, .null, .int 0])), (q_7, .inr (1, [.null, .null, .int 0])), (q_8, .inl (cI, 64, .inl (fun _ => 0))), (q_9, .inl (cO, 0, .inr (.inr (.inr (.inr (fun _ => none)))))), (q_10, .inr (11, [.int 10, .int 20, .int 20, .int 20, .int 0, .int 0, .int 0, .ref (q_12 7), .ref (q_12 8), .ref (q_12 9), .int 0, .int 0, .int 0, .ref (q_12 13), .ref (q_12 14), .ref (q_12 15), .ref (q_12 16), .int 0, .int 0, .int 0, .ref (q_12 20), .ref (q_12 21), .ref (q_12 22), .ref (q_12 23), .ref (q_12 24), .ref (q_12 25), .int 0, .int 0, .int 0, .int 0, .int 0, .ref (q_12 31), .int 0, .ref (q_12 33), .ref (q_12 34), .ref (q_12 35), .ref (q_12 36), .ref (q_12 37), .ref (q_12 38), .ref (q_12 39), .ref (q_12 40), .ref (q_12 41), .ref (q_12 42), .ref (q_12 43), .ref (q_12 44), .ref (q_12 45), .ref (q_12 46), .ref (q_12 47), .ref (q_12 48), .ref (q_12 49), .ref (q_12 50), .ref (q_12 51), .ref (q_12 52), .ref (q_12 53), .ref (q_12 54), .ref (q_12 55), .ref (q_12 56), .ref (q_12 57), .ref (q_12 58), .ref (q_12 59), .ref (q_12 60), .ref (q_12 61), .ref (q_12 62), .ref (q_12 63), .ref (q_12 64), .ref (q_12 65), .ref (q_12 66), .ref (q_12 67), .ref (q_12 68), .ref (q_12 69), .ref (q_12 70), .ref (q_12 71), .ref (q_12 72), .int 0])), ((q_12 31), .inl (cI, 64, .inl (fun _ => 0))), ((q_12 33), .inl (cZ, 4, .inl (fun _ => 0))), ((q_12 35), .inl (cI, 4, .inl (fun _ => 0))), ((q_12 40), .inl (cI, 4, .inl (fun _ => 0))), ((q_12 42), .inl (cI, 4, .inl (fun _ => 0))), ((q_12 47), .inl (cI, 4, .inl (fun _ => 0))), ((q_12 68), .inl (cI, 4, .inl (fun _ => 0))), ((q_12 48), .inl (cI, 4, .inl (fun _ => 0))), ((q_12 49), .inl (cI, 4, .inl (fun _ => 0))), ((q_12 60), .inl (cI, 4, .inl (fun _ => 0))), ((q_12 61), .inl (cI, 4, .inl (fun _ => 0))), ((q_12 67), .inl (cI, 4, .inl (fun _ => 0))), ((q_12 69), .inl (cI, 4, .inl (fun _ => 0))), ((q_12 56), .inl (cI, 4, .inl (fun _ => 0)))]) [0, 1, 2, 3, 4, 5, 6, 7, 8, 9, 10, 11, 12, 13, 14, 15, 16, 17, 18, 19, 20, 21, 22] (by decide) rfl
  by_cases t_0 : v_13 = 0
  · refine lv_tableIn (tgt := 92) (off := 60) hx hb dL_law_32 (by rw [t_0]; decide) (by rw [t_0]; decide) (by rw [t_0]; rfl) (by decide) ?_
    exact law_case0 l C0 D cI cJ cZ cO hK hN q_1 q_3 q_4 q_5 q_6 q_7 q_8 q_9 q_10 q_12 _ _ hP9 hD9 hS ls (lv_sub hl [3, 2, 1, 0] rfl)
  by_cases t_1 : v_13 = 1
  · refine lv_tableIn (tgt := 145) (off := 113) hx hb dL_law_32 (by rw [t_1]; decide) (by rw [t_1]; decide) (by rw [t_1]; rfl) (by decide) ?_
    exact law_case1 l C0 D cI cJ cZ cO hK hN q_1 q_3 q_4 q_5 q_6 q_7 q_8 q_9 q_10 q_12 _ _ hP9 hD9 hS ls (lv_sub hl [3, 2, 1, 0] rfl)
  by_cases t_2 : v_13 = 2
  · refine lv_tableIn (tgt := 194) (off := 162) hx hb dL_law_32 (by rw [t_2]; decide) (by rw [t_2]; decide) (by rw [t_2]; rfl) (by decide) ?_
    exact law_case2 l C0 D cI cJ cZ cO hK hN q_1 q_3 q_4 q_5 q_6 q_7 q_8 q_9 q_10 q_12 _ _ hP9 hD9 hS ls (lv_sub hl [3, 2, 1, 0] rfl)
  by_cases t_3 : v_13 = 3
  · refine lv_tableIn (tgt := 227) (off := 195) hx hb dL_law_32 (by rw [t_3]; decide) (by rw [t_3]; decide) (by rw [t_3]; rfl) (by decide) ?_
    exact law_case3 l C0 D cI cJ cZ cO hK hN q_1 q_3 q_4 q_5 q_6 q_7 q_8 q_9 q_10 q_12 _ _ hP9 hD9 hS ls (lv_sub hl [3, 2, 1, 0] rfl)
  by_cases t_4 : v_13 = 4
  · refine lv_tableIn (tgt := 260) (off := 228) hx hb dL_law_32 (by rw [t_4]; decide) (by rw [t_4]; decide) (by rw [t_4]; rfl) (by decide) ?_
    exact law_case4 l C0 D cI cJ cZ cO hK hN q_1 q_3 q_4 q_5 q_6 q_7 q_8 q_9 q_10 q_12 _ _ hP9 hD9 hS ls (lv_sub hl [3, 2, 1, 0] rfl)
  by_cases t_5 : v_13 = 5
  · refine lv_tableIn (tgt := 283) (off := 251) hx hb dL_law_32 (by rw [t_5]; decide) (by rw [t_5]; decide) (by rw [t_5]; rfl) (by decide) ?_
    exact law_case5 l C0 D cI cJ cZ cO hK hN q_1 q_3 q_4 q_5 q_6 q_7 q_8 q_9 q_10 q_12 _ _ hP9 hD9 hS ls (lv_sub hl [3, 2, 1, 0] rfl)
  by_cases t_6 : v_13 = 6
  · refine lv_tableIn (tgt := 306) (off := 274) hx hb dL_law_32 (by rw [t_6]; decide) (by rw [t_6]; decide) (by rw [t_6]; rfl) (by decide) ?_
    exact law_case6 l C0 D cI cJ cZ cO hK hN q_1 q_3 q_4 q_5 q_6 q_7 q_8 q_9 q_10 q_12 _ _ hP9 hD9 hS ls (lv_sub hl [3, 2, 1, 0] rfl)
  by_cases t_7 : v_13 = 7
  · refine lv_tableIn (tgt := 339) (off := 307) hx hb dL_law_32 (by rw [t_7]; decide) (by rw [t_7]; decide) (by rw [t_7]; rfl) (by decide) ?_
    exact law_case7 l C0 D cI cJ cZ cO hK hN q_1 q_3 q_4 q_5 q_6 q_7 q_8 q_9 q_10 q_12 _ _ hP9 hD9 hS ls (lv_sub hl [3, 2, 1, 0] rfl)
  by_cases t_8 : v_13 = 8
  · refine lv_tableIn (tgt := 372) (off := 340) hx hb dL_law_32 (by rw [t_8]; decide) (by rw [t_8]; decide) (by rw [t_8]; rfl) (by decide) ?_
    exact law_case8 l C0 D cI cJ cZ cO hK hN q_1 q_3 q_4 q_5 q_6 q_7 q_8 q_9 q_10 q_12 _ _ hP9 hD9 hS ls (lv_sub hl [3, 2, 1, 0] rfl)
  by_cases t_9 : v_13 = 9
  · refine lv_tableIn (tgt := 405) (off := 373) hx hb dL_law_32 (by rw [t_9]; decide) (by rw [t_9]; decide) (by rw [t_9]; rfl) (by decide) ?_
    exact law_case9 l C0 D cI cJ cZ cO hK hN q_1 q_3 q_4 q_5 q_6 q_7 q_8 q_9 q_10 q_12 _ _ hP9 hD9 hS ls (lv_sub hl [3, 2, 1, 0] rfl)
  by_cases t_10 : v_13 = 10
  · refine lv_tableIn (tgt := 428) (off := 396) hx hb dL_law_32 (by rw [t_10]; decide) (by rw [t_10]; decide) (by rw [t_10]; rfl) (by decide) ?_
    exact law_case10 l C0 D cI cJ cZ cO hK hN q_1 q_3 q_4 q_5 q_6 q_7 q_8 q_9 q_10 q_12 _ _ hP9 hD9 hS ls (lv_sub hl [3, 2, 1, 0] rfl)
  refine lv_tableOut (tgt := 451) hx hb dL_law_32 (by have h0 := lv_neT (a := 0) t_0 (by decide); have h1 := lv_neT (a := 1) t_1 (by decide); have h2 := lv_neT (a := 2) t_2 (by decide); have h3 := lv_neT (a := 3) t_3 (by decide); have h4 := lv_neT (a := 4) t_4 (by decide); have h5 := lv_neT (a := 5) t_5 (by decide); have h6 := lv_neT (a := 6) t_6 (by decide); have h7 := lv_neT (a := 7) t_7 (by decide); have h8 := lv_neT (a := 8) t_8 (by decide); have h9 := lv_neT (a := 9) t_9 (by decide); have h10 := lv_neT (a := 10) t_10 (by decide); omega) (by decide) ?_
  exact law_tail l C0 _ _ _ _ (Nat.le_of_ble_eq_true rfl) (Nat.le_of_ble_eq_true rfl) hS ls (lv_sub hl [3, 0] rfl)
set_option maxHeartbeats 4000000 in
theorem lw_walk (l : Launch) (b : Addr) (xs : List Int32) : MetFree l x (headSpec (Jvm.Cond.code x code maxLocals ret :: tables_1) room_1) (lw_P b xs) (fun _ _ _ _ _ => True) lw_Q := by
  refine MetFree.of_bodyS (code := code) (maxLocals := maxLocals) (ret := ret) (by decide) ?_ ?_
  · intro args s m h hn
    obtain ⟨meth, c, h1, h2, h3, h4, h5, h6, -, -⟩ := Cond.code_spec hn (atoms_spec (ws := Jvm.Cond.code x code maxLocals ret :: tables_1) h _ List.mem_cons_self)
    exact ⟨meth, c, h1, h2, h3, h4, h5, h6⟩
  · intro p e s m args below meth c s₁ B hml0 hP _
    obtain ⟨rfl, hx, hbd, hgv⟩ := hP
    obtain ⟨scr, harrAt, hlist, hof, hsmall⟩ := hx
    obtain ⟨hcb, hkn, -, -⟩ := State.arrayAt?_spec harrAt
    have hown : s.vm.findClass R_law = some m.cls := findClass_of_methodNamed B.named
    have hts0 : ∀ c ∈ (Jvm.Cond.code x code maxLocals ret :: tables_1), c.before #[Value.ref b] s = true := atoms_spec (ws := Jvm.Cond.code x code maxLocals ret :: tables_1) B.pre
    have hts : ∀ w ∈ lw_tbl, w.before #[Value.ref b] s = true := k2_hts_sels lw_privs (fun w hw => hts0 w (List.mem_cons_of_mem _ hw)) lw_privs_ok
    have hml : c.maxLocals = 4 := B.maxLocals_eq (hts0 _ List.mem_cons_self)
    have X₀ : Stand p l e room_1 s m #[Value.ref b] below meth c s₁ [] 0 0 := Stand.of_body B
    have hh0 : s₁.heap = s.heap := by rw [B.state]; rfl
    have hsz : scr.slots.size = xs.length := by rw [← Array.length_toList, hlist, List.length_map]
    have hval : ∀ j : Nat, j < xs.length → scr.slots[j]? = some (.int (xs.getD j 0)) := fun j hj => by
      rw [← Array.getElem?_toList, hlist]
      simp [hj]
    have hbl : b < s.heap.size := (Array.getElem?_eq_some_iff.mp hcb).1
    have hX : va_X b xs.length (fun j => xs.getD j 0) s s.heap := ⟨scr, hcb, hof, hkn, hsz, hval⟩
    have K : W p l e room_1 s m #[Value.ref b] below meth c s₁.heap [] 0 0 (lw_Z below #[Value.ref b] s) (entryFrame m ([Value.ref b] : List Value).toArray 4) := by
      rw [hh0]
      exact whole_start l hbd ⟨B.exec, B.bytes, B.returns, hml, hown, hts, hX, hbl, B.notSynchronized, hgv⟩
    obtain ⟨t, a1, o, b1, b2, b3⟩ := K s₁ rfl X₀
    exact ⟨t, o, a1, b1, b2, b3⟩
theorem lw_pre_spec {args : Array Value} {s : State} (h : (Jvm.Cond.and given_1 narrow_1).before args s = true) (hr : rest_1_c.before args s = true) : ∃ (b : Addr) (xs : List Int32), lw_P b xs args s := by
  have hs := flat_of_before _ h
  have hq := flat_of_before _ hr
  have hc : (Cond.count 1).before args s = true := hs _ (by decide +kernel)
  have harr : (Cond.arrayOf (.arg 0) .int).before args s = true := hs _ (by decide +kernel)
  have hle : (Cond.le (.length (.arg 0)) (.int 5)).before args s = true := hs _ (by decide +kernel)
  have hlen : (Cond.isInt (.length (.arg 0))).before args s = true := hq _ (by decide +kernel)
  have hall : (Cond.all (.arg 0) (.isInt (.elem (.arg 0) (.index 0)))).before args s = true := hq _ (by decide +kernel)
  obtain ⟨b, xs, hb, hx⟩ := State.ints_of_pre rfl harr hlen hall
  have hsm : xs.length < 2 ^ 31 := hx.choose_spec.2.2.2
  have hev : (Term.length (.arg 0)).eval args s none [] s = some (.int xs.length.toInt32) := hx.length_eval hb
  have hv := Cond.le_ints hev (show (Term.int 5).eval args s none [] s = some (.int 5) from rfl)
  have hd : xs.length.toInt32 ≤ 5 := by
    simpa [Cond.before, Cond.holds, hv] using hle
  have hN : xs.length ≤ 5 := (Int32.ofNat_le_ofNat hsm (by decide)).mp (show Int32.ofNat xs.length ≤ Int32.ofNat 5 from hd)
  exact ⟨b, xs, Cond.one_arg hc (show args[0]? = some (.ref b) from hb), hx, hN, h⟩
theorem lw_comes (l : Launch) : Comes l x (Jvm.Cond.code x code maxLocals ret :: tables_1) room_1 (fun tb e args s => Calls_1 tb e args s ∧ rest_1 tb e args s ∧ Pre_1 tb e args s)
    (fun _ _ args s o t => lw_Q args s o t) := by
  intro p e ha hc hk s m args below hf hfit hheap happ hpre
  obtain ⟨b, xs, hP⟩ := lw_pre_spec hpre.2.2 hpre.2.1
  obtain ⟨k, o, h1, h2, h3, hQ⟩ := lw_walk l b xs p e ha hc hk s m args below hf ((Spec.applies_iff_loose hf).mp happ).1 hP trivial
  exact ⟨k, o, h1, h2, h3, hQ⟩
theorem lw_frame {s t : State} {o : Outcome} {args : Array Value} (h : Framed s o t [] 600000 7302250) :
    Framed s o t (fieldLocs frame_1_writes args s ++ arrayLocs frame_1_arrays args s ++ staticLocs frame_1_statics s) 600000 7302250 := h
theorem lw_limb (L : Cond) (hL : ∀ (args : Array Value) (s t : State), L.after args s (.returned (some (.int 1))) t = true) :
    ArmFor flags0 classFile x code maxLocals ret World_1 tables_1 room_1 Calls_1 rest_1 Pre_1
      (fun tb e a s o t => postC L tb e a s o t ∧ Framed s o t (fieldLocs frame_1_writes a s ++ arrayLocs frame_1_arrays a s ++ staticLocs frame_1_statics s) 600000 7302250) := by
  intro l _ _ _ p e ha hc hk s m args below hf hfit hheap happ hpre
  obtain ⟨k, o, h1, h2, h3, rfl, hF⟩ := lw_comes l p e ha hc hk s m args below hf hfit hheap happ hpre
  exact ⟨k, _, h1, h2, h3, hL args s _, lw_frame hF⟩
theorem i_vc : Claimed_1_1 ∧ Claimed_1_2 := ⟨lw_limb limb_1_1 (fun args s t => by simp [limb_1_1, Cond.after, Cond.holds, Cond.value]), lw_limb limb_1_2 (fun args s t => Cond.after_iff.mpr (by
  first | (rw [show limb_1_2 = Cond.eq .result (.int 1) from rfl, Cond.eq_ints (x := 1) (y := 1) rfl rfl]; simp; done) | (simp [limb_1_2, Cond.value, Term.eval]; done)))⟩
