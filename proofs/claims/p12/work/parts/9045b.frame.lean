/-! worlds by permutation -/
theorem va_P.perm {D : va_G} {cl : List vw_C} {ws ws' : va_W} {H : Heap} (h : va_P D cl ws H) (hp : ws.Perm ws') : va_P D cl ws' H := fun k q hk => by
  obtain ⟨j, hj⟩ := List.getElem?_of_mem (hp.mem_iff.mpr (List.mem_of_getElem? hk))
  exact h j q hj
theorem va_D_iff {A : Nat → Prop} {ws : va_W} : va_D A ws ↔ ws.Pairwise (fun p q => p.1 ≠ q.1) ∧ ∀ q ∈ ws, A q.1 := by
  constructor
  · intro h
    refine ⟨List.pairwise_iff_getElem.mpr (fun i j hi hj hij e => ?_), fun q hq => ?_⟩
    · have := h.1 i j _ _ (List.getElem?_eq_getElem hi) (List.getElem?_eq_getElem hj) e
      omega
    · obtain ⟨k, hk⟩ := List.getElem?_of_mem hq
      exact h.2 k q hk
  · intro h
    refine ⟨fun i j p q hi hj e => ?_, fun k q hk => h.2 q (List.mem_of_getElem? hk)⟩
    obtain ⟨hi1, hi2⟩ := List.getElem?_eq_some_iff.mp hi
    obtain ⟨hj1, hj2⟩ := List.getElem?_eq_some_iff.mp hj
    rcases Nat.lt_trichotomy i j with w | w | w
    · exact absurd (by rw [hi2, hj2]; exact e) (List.pairwise_iff_getElem.mp h.1 i j hi1 hj1 w)
    · exact w
    · exact absurd (by rw [hi2, hj2]; exact e.symm) (List.pairwise_iff_getElem.mp h.1 j i hj1 hi1 w)
theorem va_D.perm {A : Nat → Prop} {ws ws' : va_W} (h : va_D A ws) (hp : ws.Perm ws') : va_D A ws' := by
  obtain ⟨h1, h2⟩ := va_D_iff.mp h
  exact va_D_iff.mpr ⟨(List.Perm.pairwise_iff (fun {_ _} e => Ne.symm e) hp).mp h1, fun q hq => h2 q (hp.mem_iff.mpr hq)⟩
theorem va_P.left {D : va_G} {cl : List vw_C} {a b : va_W} {H : Heap} (h : va_P D cl (a ++ b) H) : va_P D cl a H := fun k q hk => h k q (by rw [List.getElem?_append_left (List.getElem?_eq_some_iff.mp hk).1]; exact hk)
theorem va_D.left {A : Nat → Prop} {a b : va_W} (h : va_D A (a ++ b)) : va_D A a := by
  obtain ⟨h1, h2⟩ := va_D_iff.mp h
  exact va_D_iff.mpr ⟨(List.pairwise_append.mp h1).1, fun q hq => h2 q (List.mem_append_left _ hq)⟩
theorem va_freeR {A0 : Nat → Prop} {wc wr : va_W} {H0 H : Heap} {locs : List Loc} (hD : va_D A0 (wc ++ wr)) (hS : va_S A0 H0 H locs) (hA : ∀ q, H0.size ≤ q → A0 q) : ∀ q, va_A wc H.size q → A0 q := by
  intro q h
  rcases h with ⟨k, e, h⟩ | h
  · exact (va_D_iff.mp hD).2 (q, e) (List.mem_append_left _ (List.mem_of_getElem? h))
  · exact hA q (Nat.le_trans hS.1 h)
theorem va_joinR {A0 : Nat → Prop} {D : va_G} {cl : List vw_C} {wc wr w1 : va_W} {H H1 : Heap} (hP : va_P D cl (wc ++ wr) H) (hD : va_D A0 (wc ++ wr))
    (hk : ∀ q : Nat, q < H.size → ¬ va_A wc H.size q → H1[q]? = H[q]?) (hF : ∀ q, va_A wc H.size q → A0 q) (hP1 : va_P D cl w1 H1) (hD1 : va_D (va_A wc H.size) w1) : va_P D cl (w1 ++ wr) H1 ∧ va_D A0 (w1 ++ wr) := by
  have hPr : va_P D cl wr H := (hP.perm List.perm_append_comm).left
  have hDr : va_D A0 wr := (hD.perm List.perm_append_comm).left
  have apart : ∀ (k : Nat) (q : Nat × va_E), wr[k]? = some q → q.1 < H.size ∧ ¬ va_A wc H.size q.1 := by
    intro k q hq
    have hl := (hPr k q hq).lt
    refine ⟨hl, fun h => ?_⟩
    rcases h with ⟨k2, e, h⟩ | h
    · exact (List.pairwise_append.mp (va_D_iff.mp hD).1).2.2 (q.1, e) (List.mem_of_getElem? h) q (List.mem_of_getElem? hq) rfl
    · omega
  refine ⟨va_P.app hP1 (fun k q hq => (hPr k q hq).kept (hk q.1 (apart k q hq).1 (apart k q hq).2)), va_D.app (hD1.weaken (fun k q _ h => hF q.1 h)) hDr (fun i j x y hx hy hxy => ?_)⟩
  exact (apart j y hy).2 (by rw [← hxy]; exact hD1.2 i x hx)
theorem perm_idx {X Y : va_W} {N : Nat} (is : List Nat) (hs : is.map (fun i => X[i]?) = Y.map some) (hl : X.length = N) (hp : is.Perm (List.range N)) : X.Perm Y := by
  have e1 : X.map some = (List.range N).map (fun i => X[i]?) := by
    apply List.ext_getElem?
    intro k
    rw [List.getElem?_map, List.getElem?_map]
    by_cases h : k < N
    · rw [List.getElem?_range h]
      rw [List.getElem?_eq_getElem (by omega)]
      simp
    · rw [List.getElem?_eq_none (by omega), List.getElem?_eq_none (by simp; omega)]
      rfl
  have e2 : (X.map some).Perm (Y.map some) := by
    rw [e1, ← hs]
    exact (hp.map _).symm
  have e3 := e2.filterMap id
  simpa [List.filterMap_map] using e3
/-- a callee that gets the pool: its cells, the pool | the rest, the frame -/
theorem pm_P {X cx xr pl R : va_W} (h : X.Perm (cx ++ xr)) : ((X ++ pl) ++ R).Perm ((cx ++ pl) ++ (xr ++ R)) := by
  refine (List.Perm.append_right R (List.Perm.append_right pl h)).trans ?_
  simp only [List.append_assoc]
  exact List.Perm.append_left _ (List.perm_append_comm_assoc _ _ _)
theorem pm_Pb {xr rx pl R : va_W} : ((rx ++ pl) ++ (xr ++ R)).Perm (((xr ++ rx) ++ pl) ++ R) := by
  simp only [List.append_assoc]
  have h : (rx ++ (pl ++ (xr ++ R))) = (rx ++ pl) ++ (xr ++ R) := by simp only [List.append_assoc]
  rw [h]
  refine (List.perm_append_comm_assoc (rx ++ pl) xr R).trans ?_
  simp only [List.append_assoc]
  exact List.Perm.refl _
theorem pm_Q {X cx xr pl R : va_W} (h : X.Perm (cx ++ xr)) : ((X ++ pl) ++ R).Perm (cx ++ (xr ++ (pl ++ R))) := by
  refine (List.Perm.append_right R (List.Perm.append_right pl h)).trans ?_
  simp only [List.append_assoc]
  exact List.Perm.refl _
theorem pm_Qb {xr w1 pl R : va_W} : (w1 ++ (xr ++ (pl ++ R))).Perm (((xr ++ w1) ++ pl) ++ R) := by
  refine (List.perm_append_comm_assoc _ _ _).trans ?_
  simp only [List.append_assoc]
  exact List.Perm.refl _
theorem fr_get {Y R : va_W} {k : Nat} {q : Nat × va_E} (h : Y[k]? = some q) : (Y ++ R)[k]? = some q := by
  rw [List.getElem?_append_left (List.getElem?_eq_some_iff.mp h).1]
  exact h
theorem pm_open {X c pl A B F : va_W} (e : F = A ++ (c ++ B)) : ((X ++ pl) ++ F).Perm (((X ++ c) ++ pl) ++ (A ++ B)) := by
  subst e
  simp only [List.append_assoc]
  refine List.Perm.append_left X ?_
  have h : pl ++ (A ++ (c ++ B)) = (pl ++ A) ++ (c ++ B) := by simp only [List.append_assoc]
  rw [h]
  refine (List.perm_append_comm_assoc _ _ _).trans ?_
  simp only [List.append_assoc]
  exact List.Perm.refl _
theorem pm_close {X Y c pl A B F : va_W} (e : F = A ++ (c ++ B)) (h : Y.Perm (X ++ c)) : ((Y ++ pl) ++ (A ++ B)).Perm ((X ++ pl) ++ F) :=
  (List.Perm.append_right _ (List.Perm.append_right pl h)).trans (pm_open e).symm
/-! the cells of the flows -/
def fcs (cJ : ClassId) (fa : Nat → Nat → Nat) (FX : Nat → Nat → Int32) (FV : Nat → Nat → Nat → Int32) (FJ : Nat → Nat → Nat → Int64) (i : Nat) : va_W := [((fa i 0), fwC (fa i 1) (fa i 9)), ((fa i 1), snC (FX i 0) (FX i 1) (FX i 2) (FV i 0) (fa i 2) (fa i 3) (fa i 8)), ((fa i 2), tmC (FV i 1)), ((fa i 3), boC (fa i 4) (fa i 6) (FV i 2)), ((fa i 4), mkC (fa i 5)), ((fa i 5), .inl (cJ, 4, .inr (.inl (FJ i 0)))), ((fa i 6), mkC (fa i 7)), ((fa i 7), .inl (cJ, 4, .inr (.inl (FJ i 1)))), ((fa i 8), cuC (FV i 3)), ((fa i 9), rcC (FX i 0) (FV i 4) (FX i 3) (fa i 10)), ((fa i 10), mkC (fa i 11)), ((fa i 11), .inl (cJ, 4, .inr (.inl (FJ i 2))))]
def fls (cJ : ClassId) (fa : Nat → Nat → Nat) (FX : Nat → Nat → Int32) (FV : Nat → Nat → Nat → Int32) (FJ : Nat → Nat → Nat → Int64) (n : Nat) : va_W := (List.range n).flatMap (fcs cJ fa FX FV FJ)
theorem fcs_congr {cJ : ClassId} {fa : Nat → Nat → Nat} {FX : Nat → Nat → Int32} {FV : Nat → Nat → Nat → Int32} {FJ : Nat → Nat → Nat → Int64} {FX2 : Nat → Nat → Int32} {FV2 : Nat → Nat → Nat → Int32} {FJ2 : Nat → Nat → Nat → Int64} {i : Nat} (h : FX2 i = FX i ∧ FV2 i = FV i ∧ FJ2 i = FJ i) : fcs cJ fa FX2 FV2 FJ2 i = fcs cJ fa FX FV FJ i := by
  unfold fcs
  rw [h.1, h.2.1, h.2.2]
theorem fls_succ {cJ : ClassId} {fa : Nat → Nat → Nat} {FX : Nat → Nat → Int32} {FV : Nat → Nat → Nat → Int32} {FJ : Nat → Nat → Nat → Int64} {n : Nat} : fls cJ fa FX FV FJ (n + 1) = fls cJ fa FX FV FJ n ++ fcs cJ fa FX FV FJ n := by
  unfold fls
  rw [List.range_succ, List.flatMap_append]
  simp
theorem fls_congr {cJ : ClassId} {fa : Nat → Nat → Nat} {FX : Nat → Nat → Int32} {FV : Nat → Nat → Nat → Int32} {FJ : Nat → Nat → Nat → Int64} {FX2 : Nat → Nat → Int32} {FV2 : Nat → Nat → Nat → Int32} {FJ2 : Nat → Nat → Nat → Int64} : ∀ {n : Nat}, (∀ j, j < n → FX2 j = FX j ∧ FV2 j = FV j ∧ FJ2 j = FJ j) → fls cJ fa FX2 FV2 FJ2 n = fls cJ fa FX FV FJ n
  | 0, _ => rfl
  | n + 1, h => by rw [fls_succ, fls_succ, fls_congr (fun j hj => h j (by omega)), fcs_congr (h n (by omega))]
/-- flow i among n -/
theorem fls_at {cJ : ClassId} {fa : Nat → Nat → Nat} {FX : Nat → Nat → Int32} {FV : Nat → Nat → Nat → Int32} {FJ : Nat → Nat → Nat → Int64} {i : Nat} : ∀ {n : Nat}, i < n → ∃ A B : va_W, fls cJ fa FX FV FJ n = A ++ (fcs cJ fa FX FV FJ i ++ B) ∧ ∀ FX2 FV2 FJ2, (∀ j, j ≠ i → FX2 j = FX j ∧ FV2 j = FV j ∧ FJ2 j = FJ j) → fls cJ fa FX2 FV2 FJ2 n = A ++ (fcs cJ fa FX2 FV2 FJ2 i ++ B)
  | 0, h => absurd h (Nat.not_lt_zero _)
  | n + 1, h => by
    by_cases e : i = n
    · subst e
      refine ⟨fls cJ fa FX FV FJ i, [], by rw [fls_succ, List.append_nil], fun FX2 FV2 FJ2 hh => ?_⟩
      rw [fls_succ, List.append_nil, fls_congr (fun j hj => hh j (by omega))]
    · obtain ⟨A, B, h1, h2⟩ := fls_at (n := n) (i := i) (by omega)
      refine ⟨A, B ++ fcs cJ fa FX FV FJ n, by rw [fls_succ, h1]; simp only [List.append_assoc], fun FX2 FV2 FJ2 hh => ?_⟩
      rw [fls_succ, h2 FX2 FV2 FJ2 hh, fcs_congr (hh n (Ne.symm e))]
      simp only [List.append_assoc]
def fpk (a b c d e : Nat → Int32) : Nat → Nat → Int32 := fun w => match w with
  | 0 => a
  | 1 => b
  | 2 => c
  | 3 => d
  | _ => e
def fpj (a b c : Nat → Int64) : Nat → Nat → Int64 := fun w => match w with
  | 0 => a
  | 1 => b
  | _ => c
theorem fcs_up {cJ : ClassId} {fa : Nat → Nat → Nat} {FX : Nat → Nat → Int32} {FV : Nat → Nat → Nat → Int32} {FJ : Nat → Nat → Nat → Int64} {i : Nat} {sv tv bv cv rv : Nat → Int32} {f g kf : Nat → Int64} : fcs cJ fa FX (va_up FV i (fpk sv tv bv cv rv)) (va_up FJ i (fpj f g kf)) i = [((fa i 0), fwC (fa i 1) (fa i 9)), ((fa i 1), snC (FX i 0) (FX i 1) (FX i 2) sv (fa i 2) (fa i 3) (fa i 8)), ((fa i 2), tmC tv), ((fa i 3), boC (fa i 4) (fa i 6) bv), ((fa i 4), mkC (fa i 5)), ((fa i 5), .inl (cJ, 4, .inr (.inl f))), ((fa i 6), mkC (fa i 7)), ((fa i 7), .inl (cJ, 4, .inr (.inl g))), ((fa i 8), cuC cv), ((fa i 9), rcC (FX i 0) rv (FX i 3) (fa i 10)), ((fa i 10), mkC (fa i 11)), ((fa i 11), .inl (cJ, 4, .inr (.inl kf)))] := by
  simp only [fcs, va_up_self]
  rfl
theorem fls_up {cJ : ClassId} {fa : Nat → Nat → Nat} {FX : Nat → Nat → Int32} {FV : Nat → Nat → Nat → Int32} {FJ : Nat → Nat → Nat → Int64} {i n : Nat} {A B : va_W} {sv tv bv cv rv : Nat → Int32} {f g kf : Nat → Int64} (h : ∀ FX2 FV2 FJ2, (∀ j, j ≠ i → FX2 j = FX j ∧ FV2 j = FV j ∧ FJ2 j = FJ j) → fls cJ fa FX2 FV2 FJ2 n = A ++ (fcs cJ fa FX2 FV2 FJ2 i ++ B)) : fls cJ fa FX (va_up FV i (fpk sv tv bv cv rv)) (va_up FJ i (fpj f g kf)) n = A ++ ([((fa i 0), fwC (fa i 1) (fa i 9)), ((fa i 1), snC (FX i 0) (FX i 1) (FX i 2) sv (fa i 2) (fa i 3) (fa i 8)), ((fa i 2), tmC tv), ((fa i 3), boC (fa i 4) (fa i 6) bv), ((fa i 4), mkC (fa i 5)), ((fa i 5), .inl (cJ, 4, .inr (.inl f))), ((fa i 6), mkC (fa i 7)), ((fa i 7), .inl (cJ, 4, .inr (.inl g))), ((fa i 8), cuC cv), ((fa i 9), rcC (FX i 0) rv (FX i 3) (fa i 10)), ((fa i 10), mkC (fa i 11)), ((fa i 11), .inl (cJ, 4, .inr (.inl kf)))] ++ B) := by
  rw [h FX (va_up FV i (fpk sv tv bv cv rv)) (va_up FJ i (fpj f g kf)) (fun j hj => ⟨rfl, va_up_ne _ _ hj, va_up_ne _ _ hj⟩), fcs_up]
/-! a tick's account: W0, A0 the dues on the way and of the acks as the tick's segments begin to come; w now, d the due of an ack that is sent now -/
def TK (W0 A0 : List Int32) (t0 : Nat) (w d : Int32) (e : Nat) (gw ga : Prop) (xl : Nat → List Nat) (pi : Nat → Nat → Int32) (ol : Option Nat) (b : Nat) : Prop :=
  (∃ (dn dm : List Int32) (j : Nat), W0.Perm (dn ++ dz pi (xl 1)) ∧ (List.replicate j d ++ A0).Perm (dm ++ dz pi (xl 2)) ∧ j ≤ dn.length + e) ∧
  Srt (dz pi (xl 1)) ∧ Srt (dz pi (xl 2)) ∧ tot xl ol = t0 + b ∧ tot xl ol ≤ 12000 ∧ (xl 0).length ≤ 100 ∧
  (gw → ∀ x ∈ dz pi (xl 1), w < x) ∧ (ga → ∀ x ∈ dz pi (xl 2), w < x)
theorem TK_len {W0 A0 : List Int32} {t0 : Nat} {w d : Int32} {e : Nat} {gw ga : Prop} {xl : Nat → List Nat} {pi : Nat → Nat → Int32} {ol : Option Nat} {b : Nat} (h : TK W0 A0 t0 w d e gw ga xl pi ol b) : (xl 1).length + (xl 2).length ≤ W0.length + A0.length + e := by
  obtain ⟨⟨dn, dm, j, h1, h2, h3⟩, -⟩ := h
  have l1 := h1.length_eq
  have l2 := h2.length_eq
  simp only [List.length_append, List.length_replicate, dz_len] at l1 l2
  omega
theorem TK_b {W0 A0 : List Int32} {t0 : Nat} {w d : Int32} {e : Nat} {gw ga : Prop} {xl : Nat → List Nat} {pi : Nat → Nat → Int32} {ol : Option Nat} {b : Nat} (h : TK W0 A0 t0 w d e gw ga xl pi ol b) : b ≤ 12000 ∧ tot xl ol ≤ 12000 ∧ (xl 0).length ≤ 100 := by
  obtain ⟨-, -, -, h1, h2, h3, -⟩ := h
  exact ⟨by omega, h2, h3⟩
/-- what the road did meanwhile: ad the acks that were sent -/
theorem TK_QQ {W0 A0 : List Int32} {t0 : Nat} {w d : Int32} {e : Nat} {gw ga : Prop} {L : List Nat} {kd : Nat → Bool} {tag : Nat → Nat} {xl : Nat → List Nat} {pi : Nat → Nat → Int32} {ol : Option Nat} {L2 : List Nat} {kd2 : Nat → Bool} {tag2 : Nat → Nat} {xl2 : Nat → List Nat} {pi2 : Nat → Nat → Int32} {ol2 : Option Nat} {b b2 : Nat} {ad : List Int32} (h : TK W0 A0 t0 w d e gw ga xl pi ol b) (hQ : QQ L kd tag xl pi ol L2 kd2 tag2 xl2 pi2 ol2 [] ad b2 0) (ha : ad = [] ∨ ad = [d]) (hw : w < d) (hc : 120 + W0.length + A0.length ≤ 12000) (he : e ≤ 8) : TK W0 A0 t0 w d (e + ad.length) gw ga xl2 pi2 ol2 (b + b2) := by
  have hlen := TK_len h
  obtain ⟨⟨dn, dm, j, h1, h2, h3⟩, s1, s2, t1, t2, q0, g1, g2⟩ := h
  obtain ⟨-, ⟨a1, a2⟩, ⟨c1, c2⟩, a4, a5⟩ := hQ
  rw [List.nil_append] at a1
  have l1 := a1.length_eq
  have l2 := c1.length_eq
  simp only [List.length_append, dz_len] at l1 l2
  have la : ad.length ≤ 1 := by rcases ha with rfl | rfl <;> simp
  obtain ⟨b1, b3⟩ := a5 q0
  have b4 := b3 12000 t2 (by omega)
  refine ⟨⟨dn, dm, j + ad.length, h1.trans (List.Perm.append_left _ a1.symm), ?_, by omega⟩, a2 s1, c2 s2, by omega, by omega, b1, fun q x hx => g1 q x (a1.mem_iff.mp hx), fun q x hx => ?_⟩
  · have e1 : (List.replicate (j + ad.length) d ++ A0).Perm (ad ++ (List.replicate j d ++ A0)) := by
      rcases ha with rfl | rfl
      · exact List.Perm.refl _
      · rw [show j + [d].length = j + 1 from rfl, List.replicate_succ]
        exact List.Perm.refl _
    refine e1.trans ((List.Perm.append_left ad h2).trans ?_)
    refine (List.perm_append_comm_assoc _ _ _).trans ?_
    exact List.Perm.append_left _ c1.symm
  · rcases List.mem_append.mp (c1.mem_iff.mp hx) with m | m
    · rcases ha with rfl | rfl
      · cases m
      · rw [List.mem_singleton.mp m]; exact hw
    · exact g2 q x m
/-- a segment that came: off the way, answered or not, its parcel spare -/
theorem TK_seg {W0 A0 : List Int32} {t0 : Nat} {w d : Int32} {e : Nat} {gw ga : Prop} {xl : Nat → List Nat} {pi : Nat → Nat → Int32} {ol : Option Nat} {L : List Nat} {kd : Nat → Bool} {tag : Nat → Nat} {L2 : List Nat} {kd2 : Nat → Bool} {tag2 : Nat → Nat} {xl2 : Nat → List Nat} {pi2 : Nat → Nat → Int32} {ol2 : Option Nat} {b b2 z : Nat} {t : List Nat} {ad : List Int32} (h : TK W0 A0 t0 w d e gw ga xl pi ol b) (e1 : xl 1 = z :: t) {xa : Nat → List Nat} (hxa : va_up xl 1 (xl 1).tail = xa) (hQ : QQ L kd tag xa pi ol L2 kd2 tag2 xl2 pi2 ol2 [] ad b2 0) (ha : ad = [] ∨ ad = [d]) (hw : w < d) (hc : 120 + W0.length + A0.length ≤ 12000) (he : e ≤ 8) : TK W0 A0 t0 w d e gw ga (va_up xl2 3 (xl2 3 ++ [z])) pi2 ol2 (b + b2) ∧ (xl2 1).length = t.length := by
  rw [e1, List.tail_cons] at hxa
  subst hxa
  have hlen := TK_len h
  obtain ⟨⟨dn, dm, j, h1, h2, h3⟩, s1, s2, t1, t2, q0, g1, g2⟩ := h
  obtain ⟨-, ⟨a1, a2⟩, ⟨c1, c2⟩, a4, a5⟩ := hQ
  have f1 : va_up xl 1 t 1 = t := va_up_self _ _ _
  have f2 : va_up xl 1 t 2 = xl 2 := va_up_ne _ _ (by decide)
  have f0 : va_up xl 1 t 0 = xl 0 := va_up_ne _ _ (by decide)
  have f3 : va_up xl 1 t 3 = xl 3 := va_up_ne _ _ (by decide)
  rw [f1] at a1 a2
  rw [f2] at c1 c2
  rw [f0] at a5
  rw [List.nil_append] at a1
  have l1 := a1.length_eq
  have l2 := c1.length_eq
  simp only [List.length_append, dz_len] at l1 l2
  have la : ad.length ≤ 1 := by rcases ha with rfl | rfl <;> simp
  have ed : dz pi (xl 1) = pi 0 z :: dz pi t := by rw [e1]; rfl
  have et : tot (va_up xl 1 t) ol + 1 = tot xl ol := by
    unfold tot
    rw [f0, f1, f2, f3, e1, List.length_cons]
    omega
  have el : (xl 1).length = t.length + 1 := by rw [e1]; rfl
  rw [ed] at h1 s1 g1
  obtain ⟨b1, b3⟩ := a5 q0
  have b4 := b3 11999 (by omega) (by omega)
  have k1 : va_up xl2 3 (xl2 3 ++ [z]) 1 = xl2 1 := va_up_ne _ _ (by decide)
  have k2 : va_up xl2 3 (xl2 3 ++ [z]) 2 = xl2 2 := va_up_ne _ _ (by decide)
  have k0 : va_up xl2 3 (xl2 3 ++ [z]) 0 = xl2 0 := va_up_ne _ _ (by decide)
  have k3 : va_up xl2 3 (xl2 3 ++ [z]) 3 = xl2 3 ++ [z] := va_up_self _ _ _
  have kt : tot (va_up xl2 3 (xl2 3 ++ [z])) ol2 = tot xl2 ol2 + 1 := by
    unfold tot
    rw [k0, k1, k2, k3, List.length_append, List.length_singleton]
    omega
  refine ⟨⟨⟨dn ++ [pi 0 z], dm, j + ad.length, ?_, ?_, ?_⟩, ?_, ?_, by omega, by omega, by rw [k0]; exact b1, ?_, ?_⟩, l1⟩
  · rw [k1]
    refine h1.trans ?_
    rw [List.append_assoc]
    exact List.Perm.append_left _ (List.Perm.cons _ a1.symm)
  · rw [k2]
    have e2 : (List.replicate (j + ad.length) d ++ A0).Perm (ad ++ (List.replicate j d ++ A0)) := by
      rcases ha with rfl | rfl
      · exact List.Perm.refl _
      · rw [show j + [d].length = j + 1 from rfl, List.replicate_succ]
        exact List.Perm.refl _
    refine e2.trans ((List.Perm.append_left ad h2).trans ?_)
    refine (List.perm_append_comm_assoc _ _ _).trans ?_
    exact List.Perm.append_left _ c1.symm
  · rw [List.length_append, List.length_singleton]
    omega
  · rw [k1]; exact a2 (List.pairwise_cons.mp s1).2
  · rw [k2]; exact c2 s2
  · rw [k1]; exact fun q x hx => g1 q x (List.mem_cons_of_mem _ (a1.mem_iff.mp hx))
  · rw [k2]
    intro q x hx
    rcases List.mem_append.mp (c1.mem_iff.mp hx) with m | m
    · rcases ha with rfl | rfl
      · cases m
      · rw [List.mem_singleton.mp m]; exact hw
    · exact g2 q x m
/-- an ack that came: heard, its parcel spare -/
theorem TK_ack {W0 A0 : List Int32} {t0 : Nat} {w d : Int32} {e : Nat} {gw ga : Prop} {xl : Nat → List Nat} {pi : Nat → Nat → Int32} {ol : Option Nat} {L : List Nat} {kd : Nat → Bool} {tag : Nat → Nat} {L2 : List Nat} {kd2 : Nat → Bool} {tag2 : Nat → Nat} {xl2 : Nat → List Nat} {pi2 : Nat → Nat → Int32} {ol2 : Option Nat} {b b2 z : Nat} {t : List Nat} (h : TK W0 A0 t0 w d e gw ga xl pi ol b) (e1 : xl 2 = z :: t) {xa : Nat → List Nat} (hxa : va_up xl 2 (xl 2).tail = xa) (hQ : QQ L kd tag xa pi ol L2 kd2 tag2 xl2 pi2 ol2 [] [] b2 0) (hc : 120 + W0.length + A0.length ≤ 12000) (he : e ≤ 8) : TK W0 A0 t0 w d e gw ga (va_up xl2 3 (xl2 3 ++ [z])) pi2 ol2 (b + b2) ∧ (xl2 2).length = t.length := by
  rw [e1, List.tail_cons] at hxa
  subst hxa
  have hlen := TK_len h
  obtain ⟨⟨dn, dm, j, h1, h2, h3⟩, s1, s2, t1, t2, q0, g1, g2⟩ := h
  obtain ⟨-, ⟨a1, a2⟩, ⟨c1, c2⟩, a4, a5⟩ := hQ
  have f1 : va_up xl 2 t 1 = xl 1 := va_up_ne _ _ (by decide)
  have f2 : va_up xl 2 t 2 = t := va_up_self _ _ _
  have f0 : va_up xl 2 t 0 = xl 0 := va_up_ne _ _ (by decide)
  have f3 : va_up xl 2 t 3 = xl 3 := va_up_ne _ _ (by decide)
  rw [f1] at a1 a2
  rw [f2] at c1 c2
  rw [f0] at a5
  rw [List.nil_append] at a1 c1
  have l1 := a1.length_eq
  have l2 := c1.length_eq
  simp only [dz_len] at l1 l2
  have ed : dz pi (xl 2) = pi 0 z :: dz pi t := by rw [e1]; rfl
  have el : (xl 2).length = t.length + 1 := by rw [e1]; rfl
  have et : tot (va_up xl 2 t) ol + 1 = tot xl ol := by
    unfold tot
    rw [f0, f1, f2, f3, el]
    omega
  rw [ed] at h2 s2 g2
  obtain ⟨b1, b3⟩ := a5 q0
  have b4 := b3 11999 (by omega) (by omega)
  have k1 : va_up xl2 3 (xl2 3 ++ [z]) 1 = xl2 1 := va_up_ne _ _ (by decide)
  have k2 : va_up xl2 3 (xl2 3 ++ [z]) 2 = xl2 2 := va_up_ne _ _ (by decide)
  have k0 : va_up xl2 3 (xl2 3 ++ [z]) 0 = xl2 0 := va_up_ne _ _ (by decide)
  have k3 : va_up xl2 3 (xl2 3 ++ [z]) 3 = xl2 3 ++ [z] := va_up_self _ _ _
  have kt : tot (va_up xl2 3 (xl2 3 ++ [z])) ol2 = tot xl2 ol2 + 1 := by
    unfold tot
    rw [k0, k1, k2, k3, List.length_append, List.length_singleton]
    omega
  refine ⟨⟨⟨dn, dm ++ [pi 0 z], j, ?_, ?_, h3⟩, ?_, ?_, by omega, by omega, by rw [k0]; exact b1, ?_, ?_⟩, l2⟩
  · rw [k1]
    exact h1.trans (List.Perm.append_left _ a1.symm)
  · rw [k2]
    refine h2.trans ?_
    rw [List.append_assoc]
    exact List.Perm.append_left _ (List.Perm.cons _ c1.symm)
  · rw [k1]; exact a2 s1
  · rw [k2]; exact c2 (List.pairwise_cons.mp s2).2
  · rw [k1]; exact fun q x hx => g1 q x (a1.mem_iff.mp hx)
  · rw [k2]; exact fun q x hx => g2 q x (List.mem_cons_of_mem _ (c1.mem_iff.mp hx))
theorem srt_gt {l : List Int32} {w : Int32} (h : Srt l) (hh : ∀ x, l.head? = some x → w < x) : ∀ x ∈ l, w < x := by
  cases l with
  | nil => intro x hx; cases hx
  | cons a t =>
    intro x hx
    have h1 := hh a rfl
    rcases List.mem_cons.mp hx with rfl | m
    · exact h1
    · exact Int32.lt_of_lt_of_le h1 ((List.pairwise_cons.mp h).1 x m)
theorem TK_doneW {W0 A0 : List Int32} {t0 : Nat} {w d : Int32} {e : Nat} {gw ga : Prop} {xl : Nat → List Nat} {pi : Nat → Nat → Int32} {ol : Option Nat} {b : Nat} (h : TK W0 A0 t0 w d e gw ga xl pi ol b) (hh : ∀ z, (xl 1).head? = some z → w < pi 0 z) : TK W0 A0 t0 w d e True ga xl pi ol b := by
  obtain ⟨a, s1, s2, t1, t2, q0, g1, g2⟩ := h
  refine ⟨a, s1, s2, t1, t2, q0, fun _ => srt_gt s1 (fun x hx => ?_), g2⟩
  rw [List.head?_map] at hx
  cases hz : (xl 1).head? with
  | none => rw [hz] at hx; cases hx
  | some z => rw [hz] at hx; rw [← (Option.some.inj hx : pi 0 z = x)]; exact hh z hz
theorem TK_doneA {W0 A0 : List Int32} {t0 : Nat} {w d : Int32} {e : Nat} {gw ga : Prop} {xl : Nat → List Nat} {pi : Nat → Nat → Int32} {ol : Option Nat} {b : Nat} (h : TK W0 A0 t0 w d e gw ga xl pi ol b) (hh : ∀ z, (xl 2).head? = some z → w < pi 0 z) : TK W0 A0 t0 w d e gw True xl pi ol b := by
  obtain ⟨a, s1, s2, t1, t2, q0, g1, g2⟩ := h
  refine ⟨a, s1, s2, t1, t2, q0, g1, fun _ => srt_gt s2 (fun x hx => ?_)⟩
  rw [List.head?_map] at hx
  cases hz : (xl 2).head? with
  | none => rw [hz] at hx; cases hx
  | some z => rw [hz] at hx; rw [← (Option.some.inj hx : pi 0 z = x)]; exact hh z hz
