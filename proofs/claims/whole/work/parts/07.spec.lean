/-! ===== the house as numbers: what each call answers (t: which exception, 0 none; r: the answer; n: the state behind it) ===== -/
def sIn (v l m : Int) : Int := if l ≤ v ∧ v ≤ m then 1 else 0
theorem sIn_01 (v l m : Int) : sIn v l m = 0 ∨ sIn v l m = 1 := by unfold sIn; split; exact Or.inr rfl; exact Or.inl rfl
theorem sIn_1 {v l m : Int} (h : l ≤ v ∧ v ≤ m) : sIn v l m = 1 := if_pos h
theorem sIn_0 {v l m : Int} (h : ¬ (l ≤ v ∧ v ≤ m)) : sIn v l m = 0 := if_neg h
def sOr (x y : Int) : Int := (jI x ||| jI y).toInt
def sBit (t : Int) : Int := (jI 1 <<< (jI t &&& 31)).toInt
/-- 1 if the set has the member k -/
def sHas (set k : Int) : Int := if (jI set >>> (jI k &&& 31)) &&& jI 1 = jI 1 then 1 else 0
def sPlay (s : Sg) (t : Int) : Int := if s 2 t = 0 then 1 else if s 2 t = 2 ∧ s 0 0 - s 3 t < 30 then 1 else 0
/-- the seconds of the first n spans of a tape -/
def sLenTo (s : Sg) (t : Int) : Nat → Int
  | 0 => 0
  | n + 1 => sLenTo s t n + (s 10 (20 * t + n) - s 9 (20 * t + n))
def sLen (s : Sg) (t : Int) : Int := sLenTo s t (s 7 t).toNat
def sTakesTo (s : Sg) (t : Int) : Nat → Int
  | 0 => 0
  | n + 1 => sOr (sTakesTo s t n) (sBit (s 8 (20 * t + n)))
def sTakes (s : Sg) (t : Int) : Int := sTakesTo s t (s 7 t).toNat
/-- how many of the first n spans have a second from f to u -/
def sSpansTo (s : Sg) (t f u : Int) : Nat → Int
  | 0 => 0
  | n + 1 => sSpansTo s t f u n + (if sLenTo s t n < u ∧ f < sLenTo s t (n + 1) then 1 else 0)
def sSpans (s : Sg) (t f u : Int) : Int := sSpansTo s t f u (s 7 t).toNat
/-- a span at the end of the tape that is made -/
def sPuts (s : Sg) (take f u : Int) : Sg :=
  let T := s 1 0
  let p := 20 * T + s 7 T
  sU (sU (sU (sU s 8 p take) 9 p f) 10 p u) 7 T (s 7 T + 1)
def sSecTo (s : Sg) (side artist : Int) : Nat → Int
  | 0 => 0
  | n + 1 => sSecTo s side artist n + (if artist = -1 ∨ artist = n then s 14 (6 * side + n) else 0)
/-- the seconds of an artist on a side, -1: of all -/
def sSec (s : Sg) (side artist : Int) : Int := sSecTo s side artist 6
def sDue (s : Sg) (sale artist many : Int) : Int := many * s 34 (6 * sale + artist) * sSec s (s 32 sale / 12) artist / (100 * sSec s (s 32 sale / 12) (-1))
def sDiscsTo (s : Sg) (st : Int) : Nat → Int
  | 0 => 0
  | n + 1 => sDiscsTo s st n + (if s 23 n = st then 1 else 0)
/-- how many discs a stamper's are -/
def sDiscs (s : Sg) (st : Int) : Int := sDiscsTo s st (s 22 0).toNat
def sNoise (s : Sg) (d p : Int) : Int := 5 * s 25 (8 * d + p) + s 24 d * (p + 1) / 16
def sNeed (st : Int) : Int := if st % 12 = 0 then -1 else if st % 12 % 4 = 0 then st - 4 else st - 1
