/-- a world of the class: n flows, T parcels made -/
def CWd (cI cJ cO : ClassId) (b0 n : Nat) (FX : Nat → Nat → Int32) (T : Nat) (nw : Int32) (ov tf : Nat → Int32) (FV : Nat → Nat → Nat → Int32) (FJ : Nat → Nat → Nat → Int64) (go : Option S4) (gq : List S3) (gw : List S4) (ga : List A6) (ws : va_W) : Prop := ∃ (fl : Nat) (fa : Nat → Nat → Nat) (r0 r1 r2 r3 r4 r5 : Nat) (ol : Option Nat) (cf cx : Nat → Option Nat) (zn : Nat → Int32) (xl : Nat → List Nat) (tag : Nat → Nat) (L : List Nat) (kd : Nat → Bool) (pi : Nat → Nat → Int32) (bd : Nat → Nat) (af : Nat → Option Nat) (bo : Nat → Nat → Int64), ws = (([(b0, cbC r0 fl nw), (fl, flC cO n fa), (r0, rdC ov (va_rf ol) r1 r2 r3 r4 r5), (r1, chC cf cx zn 0), (r2, chC cf cx zn 1), (r3, chC cf cx zn 2), (r4, chC cf cx zn 3), (r5, tlC cI tf)] ++ va_pl L (pf cJ kd pi bd af bo)) ++ fls cJ fa FX FV FJ n) ∧ n ≤ 4 ∧ RI L kd af tag cf cx xl ol ∧ PB L kd pi bd ∧ ZN zn xl ∧ 0 ≤ ov 10 ∧ LK ov ∧ (xl 0).length ≤ 100 ∧ tot xl ol ≤ 12000 ∧ tot xl ol = T ∧ TI nw (dz pi (xl 1)) (dz pi (xl 2)) ∧ GG xl pi bd bo ol go gq gw ga ∧ JB L kd bd
theorem pmL {X cx xr pl R M : va_W} (h : X.Perm (cx ++ xr)) : (((X ++ pl) ++ R) ++ M).Perm (cx ++ ((xr ++ (pl ++ R)) ++ M)) := by
  rw [← List.append_assoc]
  exact List.Perm.append_right M (pm_Q h)
theorem pmLb {X2 xr w1 pl R M : va_W} (h : (xr ++ w1).Perm X2) : (w1 ++ ((xr ++ (pl ++ R)) ++ M)).Perm (((X2 ++ pl) ++ R) ++ M) := by
  rw [← List.append_assoc]
  exact List.Perm.append_right M (pm_Qb.trans (List.Perm.append_right R (List.Perm.append_right pl h)))
/-- the law at its loop's head, k calls done -/
def LWP (p : Program) (l : Launch) (e : Env) (s : State) (m : MethodId) (below : List Frame) (meth : Method) (c : Code) (D : va_G) (cI cJ cZ cO : ClassId) (b b0 m0 : Nat) (mq : Nat → Nat) (k : Nat) : Prop :=
  ∀ (n : Nat) (FX : Nat → Nat → Int32) (T : Nat) (nw : Int32) (ov tf : Nat → Int32) (FV : Nat → Nat → Nat → Int32) (FJ : Nat → Nat → Nat → Int64) (go : Option S4) (gq : List S3) (gw : List S4) (ga : List A6) (ws : va_W) (mi : Nat → Int32) (ma : Nat → Nat → Int32) (cl : Int) (H : Heap) (locs : List Loc), CWd cI cJ cO b0 n FX T nw ov tf FV FJ go gq gw ga ws → cl = 512 - (k : Int) → MI 0 cl mi ma → RLq n FX nw ov tf FV FJ go gq gw ga mi ma → va_P D vwCl (ws ++ mw cI cZ m0 mq mi ma) H → va_D (fun q : Nat => s.heap.size ≤ q) (ws ++ mw cI cZ m0 mq mi ma) → va_S (fun q : Nat => s.heap.size ≤ q) s.heap H locs → ∀ (ls : Array Slot), lv_has ls 4 [(0, .ref b), (1, .ref b0), (2, .ref m0), (3, .int (nI (5 * k)))] → W p l e room_1 s m #[Value.ref b] below meth c H locs (63 + 2 * T + 13 * k) (1250718 + 11 * T + 100 * k) (lw_Z below #[Value.ref b] s) (F0 m 18 ls [])
theorem CWd_T {cI cJ cO : ClassId} {b0 n : Nat} {FX : Nat → Nat → Int32} {T : Nat} {nw : Int32} {ov tf : Nat → Int32} {FV : Nat → Nat → Nat → Int32} {FJ : Nat → Nat → Nat → Int64} {go : Option S4} {gq : List S3} {gw : List S4} {ga : List A6} {ws : va_W} (h : CWd cI cJ cO b0 n FX T nw ov tf FV FJ go gq gw ga ws) : T ≤ 12000 := by
  obtain ⟨fl, fa, r0, r1, r2, r3, r4, r5, ol, cf, cx, zn, xl, tag, L, kd, pi, bd, af, bo, h0⟩ := h
  have h1 := h0.2.2.2.2.2.2.2.2.1
  have h2 := h0.2.2.2.2.2.2.2.2.2.1
  omega

set_option maxHeartbeats 4000000 in
set_option maxRecDepth 100000 in
theorem law_tail {p : Program} {e : Env} {s : State} {m : MethodId} {below : List Frame} {meth : Method} {c : Code} (l : Launch) {b L0 : Nat} {xs : Nat → Int32} (C0 : lw_At p s m meth c b L0 xs) (hL : L0 ≤ 2560) (D : va_G) (cI cJ cZ cO : ClassId) (hK : va_K D vwCl (pw_ty cI cJ cZ cO) s) (hN : nw s) (b0 m0 : Nat) (mq : Nat → Nat) (k : Nat) (hk : k < 512) (hLP : LWP p l e s m below meth c D cI cJ cZ cO b b0 m0 mq (k + 1)) (n : Nat) (FX : Nat → Nat → Int32) (T : Nat) (nw : Int32) (ov tf : Nat → Int32) (FV : Nat → Nat → Nat → Int32) (FJ : Nat → Nat → Nat → Int64) (go : Option S4) (gq : List S3) (gw : List S4) (ga : List A6) (ws : va_W) (mi : Nat → Int32) (ma : Nat → Nat → Int32) (cl : Int) (H : Heap) (locs : List Loc) (hC : CWd cI cJ cO b0 n FX T nw ov tf FV FJ go gq gw ga ws) (hcl : cl = 512 - ((k + 1 : Nat) : Int)) (hI : MI 0 cl mi ma) (hY : RLq n FX nw ov tf FV FJ go gq gw ga mi ma) (hP : va_P D vwCl (ws ++ mw cI cZ m0 mq mi ma) H) (hD : va_D (fun q : Nat => s.heap.size ≤ q) (ws ++ mw cI cZ m0 mq mi ma)) (hS : va_S (fun q : Nat => s.heap.size ≤ q) s.heap H locs) (cells slots : Nat) (h1 : cells ≤ (63 + 2 * T + 13 * (k + 1))) (h2 : slots ≤ (1250718 + 11 * T + 100 * (k + 1))) (i3 : Int32) (hi : i3 = nI (5 * k)) (ls : Array Slot) (hl : lv_has ls 4 [(0, .ref b), (1, .ref b0), (2, .ref m0), (3, .int i3)]) : W p l e room_1 s m #[Value.ref b] below meth c H locs cells slots (lw_Z below #[Value.ref b] s) (F0 m 451 ls []) := by
  obtain ⟨hx, hb, hr, hml, hown, hts0, hX, hbl, hlocks, hgv⟩ := id C0
  have ha : ∀ w ∈ wsL_law, w.before #[Value.ref b] s = true := fun w h => hts0 w (wsL_law_in w h)
  have hA : ∀ q : Nat, s.heap.size ≤ q → (fun q : Nat => s.heap.size ≤ q) q := fun _ h => h
  have hbA : ¬ (fun q : Nat => s.heap.size ≤ q) b := Nat.not_le.mpr hbl
  have hn : nI (5 * (k + 1)) = i3 + 5 := by
    rw [hi, show (5 : Int32) = nI 5 by decide, nI_add]
    congr 1
  refine lv_iinc (v := nI (5 * (k + 1))) (lv' := [(3, .int (nI (5 * (k + 1)))), (0, .ref b), (1, .ref b0), (2, .ref m0)]) hx hb dL_law_451 hl (k := 3) rfl (by rw [hn]; rfl) (by decide) rfl (fun ls hl => ?_)
  refine lv_goto (tgt := 18) hx hb dL_law_454 (by decide) ?_
  refine W.widen (k := (63 + 2 * T + 13 * (k + 1))) (n := (1250718 + 11 * T + 100 * (k + 1))) h1 h2 ?_
  exact hLP n FX T nw ov tf FV FJ go gq gw ga ws mi ma cl _ _ hC hcl hI hY hP hD hS _ (lv_sub hl [1, 2, 3, 0] rfl)
theorem RI_ini : RI [] (fun _ => false) (fun _ => none) (fun _ => 0) (fun _ => none) (fun _ => none) (fun _ => []) none := ⟨fun i _ => ⟨⟨rfl, rfl, trivial⟩, List.Pairwise.nil, fun x hx => by cases hx⟩, fun x hx => by cases hx⟩
theorem PB_ini : PB [] (fun _ => false) (fun _ _ => 0) (fun _ => 0) := fun x hx => by cases hx
theorem ZN_ini : ZN (fun _ => 0) (fun _ => []) := fun i _ => by
  show (0 : Int32) = nI 0
  decide
theorem TI_ini : TI 0 [] [] := by
  have z : (0 : Int32).toInt = 0 := by decide
  have q : ∀ x : Int, cn [] x = 0 := fun x => rfl
  refine ⟨⟨by decide, by decide⟩, List.Pairwise.nil, List.Pairwise.nil, fun x => by rw [q x]; exact Nat.zero_le _, by decide, fun x h => ?_, fun y hy => (by cases hy), by decide⟩
  rw [z] at h
  rw [q x, z]
  show ((0 : Nat) : Int) + ((0 : Nat) : Int) ≤ _
  omega
theorem FLW_n {n u : Nat} {k r : Int32} (hn : n ≤ 4) (h : FLW n k r u) : u ≤ 4 := by
  rcases h with ⟨_, h, _⟩ | ⟨_, h, h2, _⟩ <;> omega
/-- an array of no element is like any other -/
theorem arr0 {D : va_G} {cl : List vw_C} {q : Nat} {cA : ClassId} {f g : Nat → Option Nat} {H : Heap} (h : va_at D cl (q, .inl (cA, 0, .inr (.inr (.inr (.inr f))))) H) : va_at D cl (q, .inl (cA, 0, .inr (.inr (.inr (.inr g))))) H := h
