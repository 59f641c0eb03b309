theorem sMadeTo_c {s s' : Sg} (h : s' 16 = s 16) : sMadeTo s' = sMadeTo s := by
  funext d n
  induction n with
  | zero => rfl
  | succ n ih => unfold sMadeTo; rw [ih, h]
theorem kcases {P : Nat → Prop} (h0 : P 0) (h1 : P 1) (h2 : P 2) (h3 : P 3) (h4 : P 4) (h5 : P 5) (h6 : P 6) (h7 : P 7) (h8 : P 8) (h9 : P 9) (h10 : P 10) (h11 : P 11) (h12 : P 12) (h13 : P 13) (h14 : P 14) (h15 : P 15) (h16 : P 16) (h17 : P 17) (h18 : P 18) (h19 : P 19) (h20 : P 20) (h21 : P 21) (h22 : P 22) (h23 : P 23) (h24 : P 24) (h25 : P 25) (h26 : P 26) (h27 : P 27) (hn : ∀ k, P (k + 28)) : ∀ k, P k
  | 0 => h0
  | 1 => h1
  | 2 => h2
  | 3 => h3
  | 4 => h4
  | 5 => h5
  | 6 => h6
  | 7 => h7
  | 8 => h8
  | 9 => h9
  | 10 => h10
  | 11 => h11
  | 12 => h12
  | 13 => h13
  | 14 => h14
  | 15 => h15
  | 16 => h16
  | 17 => h17
  | 18 => h18
  | 19 => h19
  | 20 => h20
  | 21 => h21
  | 22 => h22
  | 23 => h23
  | 24 => h24
  | 25 => h25
  | 26 => h26
  | 27 => h27
  | k + 28 => hn k
theorem kc_0 {ac : Nat → ClassId} {ad : Ad} {s s' e e' : Sg} (h0 : s' 0 = s 0) (h1 : s' 1 = s 1) (h13 : s' 13 = s 13) (h22 : s' 22 = s 22)  : ∀ i, cC ac ad s' e' 0 i = cC ac ad s e 0 i := by
  intro i
  simp only [cC, fHouse, fProg, fFile, fRoy, fTape, fSide, fStamp, fDisc, fSale, h0, h1, h13, h22]
theorem kc_1 {ac : Nat → ClassId} {ad : Ad} {s s' e e' : Sg} (h1 : s' 1 = s 1)  : ∀ i, cC ac ad s' e' 1 i = cC ac ad s e 1 i := by
  intro i
  simp only [cC, fHouse, fProg, fFile, fRoy, fTape, fSide, fStamp, fDisc, fSale, h1]
theorem kc_2 {ac : Nat → ClassId} {ad : Ad} {s s' e e' : Sg} (h13 : s' 13 = s 13)  : ∀ i, cC ac ad s' e' 2 i = cC ac ad s e 2 i := by
  intro i
  simp only [cC, fHouse, fProg, fFile, fRoy, fTape, fSide, fStamp, fDisc, fSale, h13]
theorem kc_3 {ac : Nat → ClassId} {ad : Ad} {s s' e e' : Sg} (h22 : s' 22 = s 22)  : ∀ i, cC ac ad s' e' 3 i = cC ac ad s e 3 i := by
  intro i
  simp only [cC, fHouse, fProg, fFile, fRoy, fTape, fSide, fStamp, fDisc, fSale, h22]
theorem kc_4 {ac : Nat → ClassId} {ad : Ad} {s s' e e' : Sg} (h11 : s' 11 = s 11)  : ∀ i, cC ac ad s' e' 4 i = cC ac ad s e 4 i := by
  intro i
  simp only [cC, fHouse, fProg, fFile, fRoy, fTape, fSide, fStamp, fDisc, fSale, h11]
theorem kc_5 {ac : Nat → ClassId} {ad : Ad} {s s' e e' : Sg} (h11 : s' 11 = s 11) (h12 : s' 12 = s 12)  : ∀ i, cC ac ad s' e' 5 i = cC ac ad s e 5 i := by
  intro i
  simp only [cC, fHouse, fProg, fFile, fRoy, fTape, fSide, fStamp, fDisc, fSale, show pRow ad s' = pRow ad s from by unfold pRow; rw [h11, h12]]
theorem kc_6 {ac : Nat → ClassId} {ad : Ad} {s s' e e' : Sg} (h26 : s' 26 = s 26) (h28 : s' 28 = s 28)  : ∀ i, cC ac ad s' e' 6 i = cC ac ad s e 6 i := by
  intro i
  simp only [cC, fHouse, fProg, fFile, fRoy, fTape, fSide, fStamp, fDisc, fSale, h26, h28]
theorem kc_7 {ac : Nat → ClassId} {ad : Ad} {s s' e e' : Sg} (h27 : s' 27 = s 27)  : ∀ i, cC ac ad s' e' 7 i = cC ac ad s e 7 i := by
  intro i
  simp only [cC, fHouse, fProg, fFile, fRoy, fTape, fSide, fStamp, fDisc, fSale, h27]
theorem kc_8 {ac : Nat → ClassId} {ad : Ad} {s s' e e' : Sg} (h29 : s' 29 = s 29)  : ∀ i, cC ac ad s' e' 8 i = cC ac ad s e 8 i := by
  intro i
  simp only [cC, fHouse, fProg, fFile, fRoy, fTape, fSide, fStamp, fDisc, fSale, h29]
theorem kc_9 {ac : Nat → ClassId} {ad : Ad} {s s' e e' : Sg} (h30 : s' 30 = s 30)  : ∀ i, cC ac ad s' e' 9 i = cC ac ad s e 9 i := by
  intro i
  simp only [cC, fHouse, fProg, fFile, fRoy, fTape, fSide, fStamp, fDisc, fSale, h30]
theorem kc_10 {ac : Nat → ClassId} {ad : Ad} {s s' e e' : Sg} (h31 : s' 31 = s 31)  : ∀ i, cC ac ad s' e' 10 i = cC ac ad s e 10 i := by
  intro i
  simp only [cC, fHouse, fProg, fFile, fRoy, fTape, fSide, fStamp, fDisc, fSale, h31]
theorem kc_11 {ac : Nat → ClassId} {ad : Ad} {s s' e e' : Sg} (h35 : s' 35 = s 35)  : ∀ i, cC ac ad s' e' 11 i = cC ac ad s e 11 i := by
  intro i
  simp only [cC, fHouse, fProg, fFile, fRoy, fTape, fSide, fStamp, fDisc, fSale, h35]
theorem kc_12 {ac : Nat → ClassId} {ad : Ad} {s s' e e' : Sg}  (e0 : e' 0 = e 0) : ∀ i, cC ac ad s' e' 12 i = cC ac ad s e 12 i := by
  intro i
  simp only [cC, fHouse, fProg, fFile, fRoy, fTape, fSide, fStamp, fDisc, fSale, e0]
theorem kc_13 {ac : Nat → ClassId} {ad : Ad} {s s' e e' : Sg}  (e1 : e' 1 = e 1) : ∀ i, cC ac ad s' e' 13 i = cC ac ad s e 13 i := by
  intro i
  simp only [cC, fHouse, fProg, fFile, fRoy, fTape, fSide, fStamp, fDisc, fSale, e1]
theorem kc_14 {ac : Nat → ClassId} {ad : Ad} {s s' e e' : Sg} (h36 : s' 36 = s 36)  : ∀ i, cC ac ad s' e' 14 i = cC ac ad s e 14 i := by
  intro i
  simp only [cC, fHouse, fProg, fFile, fRoy, fTape, fSide, fStamp, fDisc, fSale, h36]
theorem kc_15 {ac : Nat → ClassId} {ad : Ad} {s s' e e' : Sg} (h31 : s' 31 = s 31)  : ∀ i, cC ac ad s' e' 15 i = cC ac ad s e 15 i := by
  intro i
  simp only [cC, fHouse, fProg, fFile, fRoy, fTape, fSide, fStamp, fDisc, fSale, h31]
theorem kc_16 {ac : Nat → ClassId} {ad : Ad} {s s' e e' : Sg} (h1 : s' 1 = s 1) (h2 : s' 2 = s 2) (h3 : s' 3 = s 3) (h4 : s' 4 = s 4) (h5 : s' 5 = s 5) (h6 : s' 6 = s 6) (h7 : s' 7 = s 7) (h9 : s' 9 = s 9) (h10 : s' 10 = s 10) (e2 : e' 2 = e 2) (e3 : e' 3 = e 3) (e4 : e' 4 = e 4) (e5 : e' 5 = e 5) : ∀ i, cC ac ad s' e' 16 i = cC ac ad s e 16 i := by
  intro i
  simp only [cC, fHouse, fProg, fFile, fRoy, fTape, fSide, fStamp, fDisc, fSale, h1, h2, h3, h4, h5, h6, h7, e2, e3, e4, e5, sLen_c h7 h9 h10]
theorem kc_17 {ac : Nat → ClassId} {ad : Ad} {s s' e e' : Sg} (h1 : s' 1 = s 1) (h8 : s' 8 = s 8)  : ∀ i, cC ac ad s' e' 17 i = cC ac ad s e 17 i := by
  intro i
  simp only [cC, fHouse, fProg, fFile, fRoy, fTape, fSide, fStamp, fDisc, fSale, h1, h8]
theorem kc_18 {ac : Nat → ClassId} {ad : Ad} {s s' e e' : Sg} (h1 : s' 1 = s 1) (h9 : s' 9 = s 9)  : ∀ i, cC ac ad s' e' 18 i = cC ac ad s e 18 i := by
  intro i
  simp only [cC, fHouse, fProg, fFile, fRoy, fTape, fSide, fStamp, fDisc, fSale, h1, h9]
theorem kc_19 {ac : Nat → ClassId} {ad : Ad} {s s' e e' : Sg} (h1 : s' 1 = s 1) (h10 : s' 10 = s 10)  : ∀ i, cC ac ad s' e' 19 i = cC ac ad s e 19 i := by
  intro i
  simp only [cC, fHouse, fProg, fFile, fRoy, fTape, fSide, fStamp, fDisc, fSale, h1, h10]
theorem kc_20 {ac : Nat → ClassId} {ad : Ad} {s s' e e' : Sg} (h13 : s' 13 = s 13) (h14 : s' 14 = s 14) (h15 : s' 15 = s 15) (h16 : s' 16 = s 16)  : ∀ i, cC ac ad s' e' 20 i = cC ac ad s e 20 i := by
  intro i
  simp only [cC, fHouse, fProg, fFile, fRoy, fTape, fSide, fStamp, fDisc, fSale, h13, h15, sSec_c h14, sMadeTo_c h16]
theorem kc_21 {ac : Nat → ClassId} {ad : Ad} {s s' e e' : Sg} (h13 : s' 13 = s 13) (h14 : s' 14 = s 14)  : ∀ i, cC ac ad s' e' 21 i = cC ac ad s e 21 i := by
  intro i
  simp only [cC, fHouse, fProg, fFile, fRoy, fTape, fSide, fStamp, fDisc, fSale, h13, h14]
theorem kc_22 {ac : Nat → ClassId} {ad : Ad} {s s' e e' : Sg} (h13 : s' 13 = s 13) (h16 : s' 16 = s 16)  : ∀ i, cC ac ad s' e' 22 i = cC ac ad s e 22 i := by
  intro i
  simp only [cC, fHouse, fProg, fFile, fRoy, fTape, fSide, fStamp, fDisc, fSale, h13, show mRow ad s' = mRow ad s from by unfold mRow; rw [h16]]
theorem kc_23 {ac : Nat → ClassId} {ad : Ad} {s s' e e' : Sg} (h16 : s' 16 = s 16) (h17 : s' 17 = s 17) (h18 : s' 18 = s 18) (h19 : s' 19 = s 19) (h20 : s' 20 = s 20) (h21 : s' 21 = s 21) (h22 : s' 22 = s 22) (h23 : s' 23 = s 23)  : ∀ i, cC ac ad s' e' 23 i = cC ac ad s e 23 i := by
  intro i
  simp only [cC, fHouse, fProg, fFile, fRoy, fTape, fSide, fStamp, fDisc, fSale, h16, h17, h18, h19, h20, h21, sDiscs_c h22 h23]
theorem kc_24 {ac : Nat → ClassId} {ad : Ad} {s s' e e' : Sg} (h22 : s' 22 = s 22) (h23 : s' 23 = s 23) (h24 : s' 24 = s 24)  : ∀ i, cC ac ad s' e' 24 i = cC ac ad s e 24 i := by
  intro i
  simp only [cC, fHouse, fProg, fFile, fRoy, fTape, fSide, fStamp, fDisc, fSale, h22, h23, h24]
theorem kc_25 {ac : Nat → ClassId} {ad : Ad} {s s' e e' : Sg} (h22 : s' 22 = s 22) (h25 : s' 25 = s 25)  : ∀ i, cC ac ad s' e' 25 i = cC ac ad s e 25 i := by
  intro i
  simp only [cC, fHouse, fProg, fFile, fRoy, fTape, fSide, fStamp, fDisc, fSale, h22, h25]
theorem kc_26 {ac : Nat → ClassId} {ad : Ad} {s s' e e' : Sg} (h31 : s' 31 = s 31) (h32 : s' 32 = s 32) (h33 : s' 33 = s 33)  : ∀ i, cC ac ad s' e' 26 i = cC ac ad s e 26 i := by
  intro i
  simp only [cC, fHouse, fProg, fFile, fRoy, fTape, fSide, fStamp, fDisc, fSale, h31, h32, h33]
theorem kc_27 {ac : Nat → ClassId} {ad : Ad} {s s' e e' : Sg} (h31 : s' 31 = s 31) (h34 : s' 34 = s 34)  : ∀ i, cC ac ad s' e' 27 i = cC ac ad s e 27 i := by
  intro i
  simp only [cC, fHouse, fProg, fFile, fRoy, fTape, fSide, fStamp, fDisc, fSale, h31, h34]
