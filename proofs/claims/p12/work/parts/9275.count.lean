theorem foldS_len : ∀ {l acc : List S4}, (l.foldl (fun acc e => insS e acc) acc).length = acc.length + l.length
  | [], acc => rfl
  | d :: t, acc => by
    rw [List.foldl_cons, foldS_len, insS_len, List.length_cons]
    omega
theorem foldA_len : ∀ {l acc : List A6}, (l.foldl (fun acc e => insA e acc) acc).length = acc.length + l.length
  | [], acc => rfl
  | d :: t, acc => by
    rw [List.foldl_cons, foldA_len, insA_len, List.length_cons]
    omega
theorem srtS_len {l : List S4} : (srtS l).length = l.length := by
  unfold srtS
  rw [foldS_len]
  simp
theorem srtA_len {l : List A6} : (srtA l).length = l.length := by
  unfold srtA
  rw [foldA_len]
  simp
theorem nI_dif {x y : Int32} {L : Nat} (h0 : 0 ≤ y.toInt) (h : y.toInt + L = x.toInt) (hx : x.toInt ≤ 6000) : x - y = nI L := by
  apply Int32.toInt_inj.mp
  rw [ti_sub (x := x - y) rfl (by omega) (by omega), nI_toInt (by omega)]
  omega
/-- what is counted -/
theorem ans_count {n : Nat} {FX : Nat → Nat → Int32} {nw n1 : Int32} {ov tf : Nat → Int32} {FV : FVt} {FJ : FJt} {go : Option S4} {gq : List S3} {gw : List S4} {ga : List A6} {mi : Nat → Int32} {ma : Nat → Nat → Int32} {zn : Nat → Int32} {xl : Nat → List Nat} {pi : Nat → Nat → Int32} {bd : Nat → Nat} {bo : Nat → Nat → Int64} {ol : Option Nat} (h : RLq n FX nw ov tf FV FJ go gq gw ga mi ma) (hZ : ZN zn xl) (hG : GG xl pi bd bo ol go gq gw ga) : xc_count n nw ov zn ol n1 = (x_count n1 mi ma).2.2 := by
  obtain ⟨GA, GW, h1, h2, h3, h4, h5⟩ := h
  obtain ⟨⟨b1, b2, b3⟩, b4, ⟨⟨r1, ⟨s10, s11, s12, s13, s14⟩, r3, ln, ls, ll⟩, r5, r6⟩, b6⟩ := h4
  obtain ⟨g1, g2, g3, g4⟩ := hG
  have z0 : zn 0 = nI gq.length := by
    rw [hZ 0 (by decide), ← g2, List.length_map]
  have z1 : zn 1 = mi 11 - mi 10 := by
    rw [hZ 1 (by decide), nI_dif h5.1.1 h5.1.2.1 (by have := h5.1.2.2; omega), ← srtS_len, ← h2, ← g3, List.length_map]
  have z2 : zn 2 = mi 18 - mi 17 := by
    rw [hZ 2 (by decide), nI_dif b6.1.1 b6.1.2.1 b6.1.2.2, ← srtA_len, ← h3, ← g4, List.length_map]
  have key : zn 0 = (if mi 6 ≤ 0 then 0 else mi 6 - 1) ∧ om ol 0 (fun _ => (1 : Int32)) = (if mi 6 ≤ 0 then 0 else 1) := by
    cases ol with
    | none =>
      have e := ln g1.symm
      rw [z0, e.1, e.2, if_pos (Int32.le_refl _), if_pos (Int32.le_refl _)]
      exact ⟨by decide, rfl⟩
    | some x =>
      have e := (ls _ g1.symm).1
      have t : (mi 6).toInt = gq.length + 1 := by
        rw [e, nI_toInt (by omega)]
        omega
      have hp : ¬ mi 6 ≤ 0 := fun w => by
        have := Int32.le_iff_toInt_le.mp w
        rw [show (0 : Int32).toInt = 0 by decide] at this
        omega
      rw [z0, if_neg hp, if_neg hp]
      refine ⟨?_, rfl⟩
      exact (nI_dif (show 0 ≤ (1 : Int32).toInt by decide) (by rw [show (1 : Int32).toInt = 1 by decide, t]; omega) (by omega)).symm
  unfold xc_count xc_roadTell x_count
  simp only [bd_eq, snd_ite]
  rw [h1, b2, s11, s12, s13, s14, z1, z2, key.1, key.2]
