/-! the pool: parcels and their boards -/
abbrev pf (cJ : ClassId) (kd : Nat → Bool) (pi : Nat → Nat → Int32) (bd : Nat → Nat) (af : Nat → Option Nat) (bo : Nat → Nat → Int64) : Nat → va_E := fun a => if kd a = true then .inl (cJ, 4, .inr (.inl (bo a))) else .inr (5, [.int (pi 0 a), .int (pi 1 a), .int (pi 2 a), .int (pi 3 a), .int (pi 4 a), .ref (bd a), va_rf (af a)])
theorem pf_p {cJ : ClassId} {kd : Nat → Bool} {pi : Nat → Nat → Int32} {bd : Nat → Nat} {af : Nat → Option Nat} {bo : Nat → Nat → Int64} {a : Nat} (h : kd a = false) : pf cJ kd pi bd af bo a = .inr (5, [.int (pi 0 a), .int (pi 1 a), .int (pi 2 a), .int (pi 3 a), .int (pi 4 a), .ref (bd a), va_rf (af a)]) := by simp [pf, h]
theorem pf_b {cJ : ClassId} {kd : Nat → Bool} {pi : Nat → Nat → Int32} {bd : Nat → Nat} {af : Nat → Option Nat} {bo : Nat → Nat → Int64} {a : Nat} (h : kd a = true) : pf cJ kd pi bd af bo a = .inl (cJ, 4, .inr (.inl (bo a))) := by simp [pf, h]
def upp (pi : Nat → Nat → Int32) (k a : Nat) (x : Int32) : Nat → Nat → Int32 := fun j b => if j = k then (if b = a then x else pi j b) else pi j b
theorem pf_u0 {cJ : ClassId} {kd : Nat → Bool} {pi : Nat → Nat → Int32} {bd : Nat → Nat} {af : Nat → Option Nat} {bo : Nat → Nat → Int64} {a : Nat} {x : Int32} (h : kd a = false) : va_up (pf cJ kd pi bd af bo) a (.inr (5, [.int x, .int (pi 1 a), .int (pi 2 a), .int (pi 3 a), .int (pi 4 a), .ref (bd a), va_rf (af a)])) = pf cJ kd (upp pi 0 a x) bd af bo := by
  funext b
  by_cases hb : b = a
  · subst hb; simp [va_up, pf, h, upp]
  · simp [va_up, pf, upp, hb]
theorem pf_u1 {cJ : ClassId} {kd : Nat → Bool} {pi : Nat → Nat → Int32} {bd : Nat → Nat} {af : Nat → Option Nat} {bo : Nat → Nat → Int64} {a : Nat} {x : Int32} (h : kd a = false) : va_up (pf cJ kd pi bd af bo) a (.inr (5, [.int (pi 0 a), .int x, .int (pi 2 a), .int (pi 3 a), .int (pi 4 a), .ref (bd a), va_rf (af a)])) = pf cJ kd (upp pi 1 a x) bd af bo := by
  funext b
  by_cases hb : b = a
  · subst hb; simp [va_up, pf, h, upp]
  · simp [va_up, pf, upp, hb]
theorem pf_u2 {cJ : ClassId} {kd : Nat → Bool} {pi : Nat → Nat → Int32} {bd : Nat → Nat} {af : Nat → Option Nat} {bo : Nat → Nat → Int64} {a : Nat} {x : Int32} (h : kd a = false) : va_up (pf cJ kd pi bd af bo) a (.inr (5, [.int (pi 0 a), .int (pi 1 a), .int x, .int (pi 3 a), .int (pi 4 a), .ref (bd a), va_rf (af a)])) = pf cJ kd (upp pi 2 a x) bd af bo := by
  funext b
  by_cases hb : b = a
  · subst hb; simp [va_up, pf, h, upp]
  · simp [va_up, pf, upp, hb]
theorem pf_u3 {cJ : ClassId} {kd : Nat → Bool} {pi : Nat → Nat → Int32} {bd : Nat → Nat} {af : Nat → Option Nat} {bo : Nat → Nat → Int64} {a : Nat} {x : Int32} (h : kd a = false) : va_up (pf cJ kd pi bd af bo) a (.inr (5, [.int (pi 0 a), .int (pi 1 a), .int (pi 2 a), .int x, .int (pi 4 a), .ref (bd a), va_rf (af a)])) = pf cJ kd (upp pi 3 a x) bd af bo := by
  funext b
  by_cases hb : b = a
  · subst hb; simp [va_up, pf, h, upp]
  · simp [va_up, pf, upp, hb]
theorem pf_u4 {cJ : ClassId} {kd : Nat → Bool} {pi : Nat → Nat → Int32} {bd : Nat → Nat} {af : Nat → Option Nat} {bo : Nat → Nat → Int64} {a : Nat} {x : Int32} (h : kd a = false) : va_up (pf cJ kd pi bd af bo) a (.inr (5, [.int (pi 0 a), .int (pi 1 a), .int (pi 2 a), .int (pi 3 a), .int x, .ref (bd a), va_rf (af a)])) = pf cJ kd (upp pi 4 a x) bd af bo := by
  funext b
  by_cases hb : b = a
  · subst hb; simp [va_up, pf, h, upp]
  · simp [va_up, pf, upp, hb]
theorem pf_u6 {cJ : ClassId} {kd : Nat → Bool} {pi : Nat → Nat → Int32} {bd : Nat → Nat} {af : Nat → Option Nat} {bo : Nat → Nat → Int64} {a : Nat} {x : Option Nat} (h : kd a = false) : va_up (pf cJ kd pi bd af bo) a (.inr (5, [.int (pi 0 a), .int (pi 1 a), .int (pi 2 a), .int (pi 3 a), .int (pi 4 a), .ref (bd a), va_rf x])) = pf cJ kd pi bd (va_up af a x) bo := by
  funext b
  by_cases hb : b = a
  · subst hb; simp [va_up, pf, h]
  · simp [va_up, pf, hb]
def ap_fi (la fi : Option Nat) (q : Nat) : Option Nat := match la with
  | none => some q
  | some _ => fi
def ap_af (af : Nat → Option Nat) (la : Option Nat) (q : Nat) : Nat → Option Nat := match la with
  | none => va_up af q none
  | some z => va_up (va_up af q none) z (some q)
def tk_fi (af : Nat → Option Nat) (fi : Option Nat) : Option Nat := match fi with
  | none => none
  | some z => af z
def tk_la (af : Nat → Option Nat) (fi la : Option Nat) : Option Nat := match tk_fi af fi with
  | none => none
  | some _ => la
def tk_n (fi : Option Nat) (n : Int32) : Int32 := match fi with
  | none => n
  | some _ => n - 1
def tk_af (af : Nat → Option Nat) (fi : Option Nat) : Nat → Option Nat := match fi with
  | none => af
  | some z => va_up af z none
