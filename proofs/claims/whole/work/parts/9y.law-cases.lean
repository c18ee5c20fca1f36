/-! ===== each of the law's cases; its loop ===== -/
theorem cL_0 {p b L : Nat} {xs : Nat → Int32} {s5 s6 s7 : Option Value} {J : zq_P} {h : zq_H} {V : zV} (hp : p + 4 < L) (hL : L < 2 ^ 31) (hV : ZV V) (hA : XA V h) (hM : MA b V h) (hb : b < 2147483648) (k : zlg b p J) : xL_0 L xs sp_xSign sp_mSign J (zll p s5 s6 s7) [] h := sh1 hp hL (j_sign hV (xs (p + 1))) hA hM hb k
theorem cL_1 {p b L : Nat} {xs : Nat → Int32} {s5 s6 s7 : Option Value} {J : zq_P} {h : zq_H} {V : zV} (hp : p + 4 < L) (hL : L < 2 ^ 31) (hV : ZV V) (hA : XA V h) (hM : MA b V h) (hb : b < 2147483648) (k : zlg b p J) : xL_1 L xs sp_xEnd sp_mEnd J (zll p s5 s6 s7) [] h := sh1 hp hL (j_end hV hA.2.1.2.1 (xs (p + 1))) hA hM hb k
theorem cL_2 {p b L : Nat} {xs : Nat → Int32} {s5 s6 s7 : Option Value} {J : zq_P} {h : zq_H} {V : zV} (hp : p + 4 < L) (hL : L < 2 ^ 31) (hV : ZV V) (hA : XA V h) (hM : MA b V h) (hb : b < 2147483648) (k : zlg b p J) {J2 : zq_P} (k2 : zlg b p J2) : xL_2 L xs (fun args h Q Q2 => ∃ U, sp_xLoaf U args h Q Q2) (zE2 sp_mLoaf) J J2 (zll p s5 s6 s7) [] h := shE (σ := zxA) (sv := sp_xLoaf) (fun p s5 s6 s7 => ⟨_, _, _, rfl⟩) (j_loaf hV) hA hM hb k k2
theorem ok2_2 : zq_M2 zxA yX11_loaf cX11_loaf 3 (some .int) 6 (fun args h Q Q2 => ∃ U, sp_xLoaf U args h Q Q2) := fun l D Y ad args h Q Q2 ⟨U, q⟩ => ok_xLoaf U l D Y ad args h Q Q2 q
theorem cL_3 {p b L : Nat} {xs : Nat → Int32} {s5 s6 s7 : Option Value} {J : zq_P} {h : zq_H} {V : zV} (hp : p + 4 < L) (hL : L < 2 ^ 31) (hV : ZV V) (hA : XA V h) (hM : MA b V h) (hb : b < 2147483648) (k : zlg b p J) : xL_3 L xs sp_xGuests sp_mGuests J (zll p s5 s6 s7) [] h := sh0 (L := L) (xs := xs) (j_guests hV ) hA hM hb k
theorem cL_4 {p b L : Nat} {xs : Nat → Int32} {s5 s6 s7 : Option Value} {J : zq_P} {h : zq_H} {V : zV} (hp : p + 4 < L) (hL : L < 2 ^ 31) (hV : ZV V) (hA : XA V h) (hM : MA b V h) (hb : b < 2147483648) (k : zlg b p J) : xL_4 L xs sp_xDeeds sp_mDeeds J (zll p s5 s6 s7) [] h := sh0 (L := L) (xs := xs) (j_deeds hV ) hA hM hb k
theorem cL_5 {p b L : Nat} {xs : Nat → Int32} {s5 s6 s7 : Option Value} {J : zq_P} {h : zq_H} {V : zV} (hp : p + 4 < L) (hL : L < 2 ^ 31) (hV : ZV V) (hA : XA V h) (hM : MA b V h) (hb : b < 2147483648) (k : zlg b p J) {J2 : zq_P} (k2 : zlg b p J2) : xL_5 L xs (fun args h Q Q2 => ∃ U, sp_xRule U args h Q Q2) (zE2 sp_mRule) J J2 (zll p s5 s6 s7) [] h := shE (σ := zxB) (sv := sp_xRule) (fun p s5 s6 s7 => ⟨_, _, _, rfl⟩) (j_rule hV) hA hM hb k k2
theorem ok2_5 : zq_M2 zxB yX11_rule cX11_rule 3 (some .int) 6 (fun args h Q Q2 => ∃ U, sp_xRule U args h Q Q2) := fun l D Y ad args h Q Q2 ⟨U, q⟩ => ok_xRule U l D Y ad args h Q Q2 q
theorem cL_6 {p b L : Nat} {xs : Nat → Int32} {s5 s6 s7 : Option Value} {J : zq_P} {h : zq_H} {V : zV} (hp : p + 4 < L) (hL : L < 2 ^ 31) (hV : ZV V) (hA : XA V h) (hM : MA b V h) (hb : b < 2147483648) (k : zlg b p J) : xL_6 L xs sp_mCell J (zll p s5 s6 s7) [] h := shX (sv := sp_xCell) hp hL (j_cell hV hA.1.1.1 (xs (p + 1)) (xs (p + 2))) hV hA hM hb k
theorem cL_7 {p b L : Nat} {xs : Nat → Int32} {s5 s6 s7 : Option Value} {J : zq_P} {h : zq_H} {V : zV} (hp : p + 4 < L) (hL : L < 2 ^ 31) (hV : ZV V) (hA : XA V h) (hM : MA b V h) (hb : b < 2147483648) (k : zlg b p J) : xL_7 L xs sp_mGuest J (zll p s5 s6 s7) [] h := shX (sv := sp_xGuest) hp hL (j_guest hV hA.1.2.1.1 (xs (p + 1)) (xs (p + 2))) hV hA hM hb k
theorem cL_8 {p b L : Nat} {xs : Nat → Int32} {s5 s6 s7 : Option Value} {J : zq_P} {h : zq_H} {V : zV} (hp : p + 4 < L) (hL : L < 2 ^ 31) (hV : ZV V) (hA : XA V h) (hM : MA b V h) (hb : b < 2147483648) (k : zlg b p J) : xL_8 L xs sp_xWorth sp_mWorth J (zll p s5 s6 s7) [] h := sh2 hp hL (j_worth hV hA.1.2.1.1 hA.1.1.1 (xs (p + 1)) (xs (p + 2))) hA hM hb k
theorem cL_9 {p b L : Nat} {xs : Nat → Int32} {s5 s6 s7 : Option Value} {J : zq_P} {h : zq_H} {V : zV} (hp : p + 4 < L) (hL : L < 2 ^ 31) (hV : ZV V) (hA : XA V h) (hM : MA b V h) (hb : b < 2147483648) (k : zlg b p J) : xL_9 L xs sp_xTaste sp_mTaste J (zll p s5 s6 s7) [] h := sh3 hp hL (j_taste hV hA.1.2.1.1 (xs (p + 1)) (xs (p + 2)) (xs (p + 3))) hA hM hb k
theorem cL_10 {p b L : Nat} {xs : Nat → Int32} {s5 s6 s7 : Option Value} {J : zq_P} {h : zq_H} {V : zV} (hp : p + 4 < L) (hL : L < 2 ^ 31) (hV : ZV V) (hA : XA V h) (hM : MA b V h) (hb : b < 2147483648) (k : zlg b p J) : xL_10 L xs (zE sp_xSheet) (zE2 sp_mSheet) J (zll p s5 s6 s7) [] h := sh4 hp hL (j_sheet hV (xs (p + 1)) (xs (p + 2)) (xs (p + 3)) (xs (p + 4))) hA hM hb k
theorem cL_11 {p b L : Nat} {xs : Nat → Int32} {s5 s6 s7 : Option Value} {J : zq_P} {h : zq_H} {V : zV} (hp : p + 4 < L) (hL : L < 2 ^ 31) (hV : ZV V) (hA : XA V h) (hM : MA b V h) (hb : b < 2147483648) (k : zlg b p J) : xL_11 L xs sp_xGive sp_mGive J (zll p s5 s6 s7) [] h := sh3 hp hL (j_give hV hA.1.1.1 hA.1.2.1.1 (xs (p + 1)) (xs (p + 2)) (xs (p + 3))) hA hM hb k
theorem cL_12 {p b L : Nat} {xs : Nat → Int32} {s5 s6 s7 : Option Value} {J : zq_P} {h : zq_H} {V : zV} (hp : p + 4 < L) (hL : L < 2 ^ 31) (hV : ZV V) (hA : XA V h) (hM : MA b V h) (hb : b < 2147483648) (k : zlg b p J) : xL_12 L xs sp_xBack sp_mBack J (zll p s5 s6 s7) [] h := sh2 hp hL (j_back hV hA.1.1.1 (xs (p + 1)) (xs (p + 2))) hA hM hb k
theorem cL_13 {p b L : Nat} {xs : Nat → Int32} {s5 s6 s7 : Option Value} {J : zq_P} {h : zq_H} {V : zV} (hp : p + 4 < L) (hL : L < 2 ^ 31) (hV : ZV V) (hA : XA V h) (hM : MA b V h) (hb : b < 2147483648) (k : zlg b p J) : xL_13 L xs sp_xMouse sp_mMouse J (zll p s5 s6 s7) [] h := sh1 hp hL (j_mouse hV hA.1.1.1 (xs (p + 1))) hA hM hb k
theorem cL_14 {p b L : Nat} {xs : Nat → Int32} {s5 s6 s7 : Option Value} {J : zq_P} {h : zq_H} {V : zV} (hp : p + 4 < L) (hL : L < 2 ^ 31) (hV : ZV V) (hA : XA V h) (hM : MA b V h) (hb : b < 2147483648) (k : zlg b p J) : xL_14 L xs sp_xSupper sp_mSupper J (zll p s5 s6 s7) [] h := sh0 (L := L) (xs := xs) (j_supper hV hA.1.1.1 hA.1.2.1.1 ) hA hM hb k
theorem cL_15 {p b L : Nat} {xs : Nat → Int32} {s5 s6 s7 : Option Value} {J : zq_P} {h : zq_H} {V : zV} (hp : p + 4 < L) (hL : L < 2 ^ 31) (hV : ZV V) (hA : XA V h) (hM : MA b V h) (hb : b < 2147483648) (k : zlg b p J) : xL_15 L xs sp_xUndo sp_mUndo J (zll p s5 s6 s7) [] h := sh0 (L := L) (xs := xs) (j_undo hV ) hA hM hb k
theorem cL_16 {p b L : Nat} {xs : Nat → Int32} {s5 s6 s7 : Option Value} {J : zq_P} {h : zq_H} {V : zV} (hp : p + 4 < L) (hL : L < 2 ^ 31) (hV : ZV V) (hA : XA V h) (hM : MA b V h) (hb : b < 2147483648) (k : zlg b p J) : xL_16 L xs sp_xSeen sp_mSeen J (zll p s5 s6 s7) [] h := sh2 hp hL (j_seen hV hA.1.2.1.1 (xs (p + 1)) (xs (p + 2))) hA hM hb k
theorem cL_17 {p b L : Nat} {xs : Nat → Int32} {s5 s6 s7 : Option Value} {J : zq_P} {h : zq_H} {V : zV} (hp : p + 4 < L) (hL : L < 2 ^ 31) (hV : ZV V) (hA : XA V h) (hM : MA b V h) (hb : b < 2147483648) (k : zlg b p J) : xL_17 L xs (zE sp_xEnvy) (zE2 sp_mEnvy) J (zll p s5 s6 s7) [] h := sh0 (L := L) (xs := xs) (j_envy hV ) hA hM hb k
theorem cL_18 {p b L : Nat} {xs : Nat → Int32} {s5 s6 s7 : Option Value} {J : zq_P} {h : zq_H} {V : zV} (hp : p + 4 < L) (hL : L < 2 ^ 31) (hV : ZV V) (hA : XA V h) (hM : MA b V h) (hb : b < 2147483648) (k : zlg b p J) : xL_18 L xs (zE sp_xWronged) (zE2 sp_mWronged) J (zll p s5 s6 s7) [] h := sh0 (L := L) (xs := xs) (j_wronged hV ) hA hM hb k
theorem cL_19 {p b L : Nat} {xs : Nat → Int32} {s5 s6 s7 : Option Value} {J : zq_P} {h : zq_H} {V : zV} (hp : p + 4 < L) (hL : L < 2 ^ 31) (hV : ZV V) (hA : XA V h) (hM : MA b V h) (hb : b < 2147483648) (k : zlg b p J) : xL_19 L xs (zE sp_xHappy) (zE2 sp_mHappy) J (zll p s5 s6 s7) [] h := sh0 (L := L) (xs := xs) (j_happy hV ) hA hM hb k
theorem cL_20 {p b L : Nat} {xs : Nat → Int32} {s5 s6 s7 : Option Value} {J : zq_P} {h : zq_H} {V : zV} (hp : p + 4 < L) (hL : L < 2 ^ 31) (hV : ZV V) (hA : XA V h) (hM : MA b V h) (hb : b < 2147483648) (k : zlg b p J) : xL_20 L xs sp_xPieces sp_mPieces J (zll p s5 s6 s7) [] h := sh1 hp hL (j_pieces hV (xs (p + 1))) hA hM hb k
theorem cL_21 {p b L : Nat} {xs : Nat → Int32} {s5 s6 s7 : Option Value} {J : zq_P} {h : zq_H} {V : zV} (hp : p + 4 < L) (hL : L < 2 ^ 31) (hV : ZV V) (hA : XA V h) (hM : MA b V h) (hb : b < 2147483648) (k : zlg b p J) : xL_21 L xs (zE sp_xTrade) (zE2 sp_mTrade) J (zll p s5 s6 s7) [] h := sh2 hp hL (j_trade hV hA.1.2.1.1 (xs (p + 1)) (xs (p + 2))) hA hM hb k
theorem cL_22 {p b L : Nat} {xs : Nat → Int32} {s5 s6 s7 : Option Value} {J : zq_P} {h : zq_H} {V : zV} (hp : p + 4 < L) (hL : L < 2 ^ 31) (hV : ZV V) (hA : XA V h) (hM : MA b V h) (hb : b < 2147483648) (k : zlg b p J) : xL_22 L xs (zE sp_xSlices) (zE2 sp_mSlices) J (zll p s5 s6 s7) [] h := sh1 hp hL (j_slices hV hA.1.2.1.1 (xs (p + 1))) hA hM hb k
theorem cL_23 {p b L : Nat} {xs : Nat → Int32} {s5 s6 s7 : Option Value} {J : zq_P} {h : zq_H} {V : zV} (hp : p + 4 < L) (hL : L < 2 ^ 31) (hV : ZV V) (hA : XA V h) (hM : MA b V h) (hb : b < 2147483648) (k : zlg b p J) : xL_23 L xs (zE sp_xQuarrel) (zE2 sp_mQuarrel) J (zll p s5 s6 s7) [] h := sh0 (L := L) (xs := xs) (j_quarrel hV ) hA hM hb k
theorem cL_24 {p b L : Nat} {xs : Nat → Int32} {s5 s6 s7 : Option Value} {J : zq_P} {h : zq_H} {V : zV} (hp : p + 4 < L) (hL : L < 2 ^ 31) (hV : ZV V) (hA : XA V h) (hM : MA b V h) (hb : b < 2147483648) (k : zlg b p J) : xL_24 L xs (zE sp_xStretch) (zE2 sp_mStretch) J (zll p s5 s6 s7) [] h := sh0 (L := L) (xs := xs) (j_stretch hV ) hA hM hb k
theorem cL_25 {p b L : Nat} {xs : Nat → Int32} {s5 s6 s7 : Option Value} {J : zq_P} {h : zq_H} {V : zV} (hp : p + 4 < L) (hL : L < 2 ^ 31) (hV : ZV V) (hA : XA V h) (hM : MA b V h) (hb : b < 2147483648) (k : zlg b p J) : xL_25 L xs (zE sp_xRichest) (zE2 sp_mRichest) J (zll p s5 s6 s7) [] h := sh2 hp hL (j_richest hV hA.1.1.1 hA.1.2.1.1 (xs (p + 1)) (xs (p + 2))) hA hM hb k
theorem cL_26 {p b L : Nat} {xs : Nat → Int32} {s5 s6 s7 : Option Value} {J : zq_P} {h : zq_H} {V : zV} (hp : p + 4 < L) (hL : L < 2 ^ 31) (hV : ZV V) (hA : XA V h) (hM : MA b V h) (hb : b < 2147483648) (k : zlg b p J) : xL_26 L xs (zE sp_xParts) (zE2 sp_mParts) J (zll p s5 s6 s7) [] h := sh2 hp hL (j_parts hV hA.1.2.1.1 (xs (p + 1)) (xs (p + 2))) hA hM hb k
theorem cL_27 {p b L : Nat} {xs : Nat → Int32} {s5 s6 s7 : Option Value} {J : zq_P} {h : zq_H} {V : zV} (hp : p + 4 < L) (hL : L < 2 ^ 31) (hV : ZV V) (hA : XA V h) (hM : MA b V h) (hb : b < 2147483648) (k : zlg b p J) : xL_27 L xs (zE sp_xCalm) (zE2 sp_mCalm) J (zll p s5 s6 s7) [] h := sh0 (L := L) (xs := xs) (j_calm hV ) hA hM hb k
theorem cL_28 {p b L : Nat} {xs : Nat → Int32} {s5 s6 s7 : Option Value} {J : zq_P} {h : zq_H} {V : zV} (hp : p + 4 < L) (hL : L < 2 ^ 31) (hV : ZV V) (hA : XA V h) (hM : MA b V h) (hb : b < 2147483648) (k : zlg b p J) : xL_28 L xs (zE sp_xCuts) (zE2 sp_mCuts) J (zll p s5 s6 s7) [] h := sh2 hp hL (j_cuts hV hA.1.2.1.1 (xs (p + 1)) (xs (p + 2))) hA hM hb k
theorem cL_29 {p b L : Nat} {xs : Nat → Int32} {s5 s6 s7 : Option Value} {J : zq_P} {h : zq_H} {V : zV} (hp : p + 4 < L) (hL : L < 2 ^ 31) (hV : ZV V) (hA : XA V h) (hM : MA b V h) (hb : b < 2147483648) (k : zlg b p J) : xL_29 L xs (zE sp_xByturns) (zE2 sp_mByturns) J (zll p s5 s6 s7) [] h := sh0 (L := L) (xs := xs) (j_byturns hV ) hA hM hb k
theorem cL_30 {p b L : Nat} {xs : Nat → Int32} {s5 s6 s7 : Option Value} {J : zq_P} {h : zq_H} {V : zV} (hp : p + 4 < L) (hL : L < 2 ^ 31) (hV : ZV V) (hA : XA V h) (hM : MA b V h) (hb : b < 2147483648) (k : zlg b p J) : xL_30 L xs (zE sp_xLies) (zE2 sp_mLies) J (zll p s5 s6 s7) [] h := sh1 hp hL (j_lies hV hA.1.2.1.1 (xs (p + 1))) hA hM hb k
theorem cL_31 {p b L : Nat} {xs : Nat → Int32} {s5 s6 s7 : Option Value} {J : zq_P} {h : zq_H} {V : zV} (hp : p + 4 < L) (hL : L < 2 ^ 31) (hV : ZV V) (hA : XA V h) (hM : MA b V h) (hb : b < 2147483648) (k : zlg b p J) : xL_31 L xs sp_xChose sp_mChose J (zll p s5 s6 s7) [] h := sh2 hp hL (j_chose hV hA.1.1.1 (xs (p + 1)) (xs (p + 2))) hA hM hb k
theorem cL_32 {p b L : Nat} {xs : Nat → Int32} {s5 s6 s7 : Option Value} {J : zq_P} {h : zq_H} {V : zV} (hp : p + 4 < L) (hL : L < 2 ^ 31) (hV : ZV V) (hA : XA V h) (hM : MA b V h) (hb : b < 2147483648) (k : zlg b p J) : xL_32 L xs sp_xForget sp_mForget J (zll p s5 s6 s7) [] h := sh0 (L := L) (xs := xs) (j_forget hV ) hA hM hb k
theorem cL_33 {p b L : Nat} {xs : Nat → Int32} {s5 s6 s7 : Option Value} {J : zq_P} {h : zq_H} {V : zV} (hp : p + 4 < L) (hL : L < 2 ^ 31) (hV : ZV V) (hA : XA V h) (hM : MA b V h) (hb : b < 2147483648) (k : zlg b p J) : xL_33 L xs (zE sp_xTastes) (zE2 sp_mTastes) J (zll p s5 s6 s7) [] h := sh1 hp hL (j_tastes hV hA.1.2.1.1 (xs (p + 1))) hA hM hb k
theorem cL_34 {p b L : Nat} {xs : Nat → Int32} {s5 s6 s7 : Option Value} {J : zq_P} {h : zq_H} {V : zV} (hp : p + 4 < L) (hL : L < 2 ^ 31) (hV : ZV V) (hA : XA V h) (hM : MA b V h) (hb : b < 2147483648) (k : zlg b p J) : xL_34 L xs (zE sp_xOffer) (zE2 sp_mOffer) J (zll p s5 s6 s7) [] h := sh1 hp hL (j_offer hV hA.1.2.1.1 (xs (p + 1))) hA hM hb k
theorem cL_35 {p b L : Nat} {xs : Nat → Int32} {s5 s6 s7 : Option Value} {J : zq_P} {h : zq_H} {V : zV} (hp : p + 4 < L) (hL : L < 2 ^ 31) (hV : ZV V) (hA : XA V h) (hM : MA b V h) (hb : b < 2147483648) (k : zlg b p J) : xL_35 L xs (zE sp_xClaims) (zE2 sp_mClaims) J (zll p s5 s6 s7) [] h := sh0 (L := L) (xs := xs) (j_claims hV ) hA hM hb k
theorem cL_36 {p b L : Nat} {xs : Nat → Int32} {s5 s6 s7 : Option Value} {J : zq_P} {h : zq_H} {V : zV} (hp : p + 4 < L) (hL : L < 2 ^ 31) (hV : ZV V) (hA : XA V h) (hM : MA b V h) (hb : b < 2147483648) (k : zlg b p J) : xL_36 L xs sp_xSettle sp_mSettle J (zll p s5 s6 s7) [] h := sh2 hp hL (j_settle hV (xs (p + 1)) (xs (p + 2))) hA hM hb k
theorem cL_37 {p b L : Nat} {xs : Nat → Int32} {s5 s6 s7 : Option Value} {J : zq_P} {h : zq_H} {V : zV} (hp : p + 4 < L) (hL : L < 2 ^ 31) (hV : ZV V) (hA : XA V h) (hM : MA b V h) (hb : b < 2147483648) (k : zlg b p J) : xL_37 L xs sp_xNothing sp_mNothing J (zll p s5 s6 s7) [] h := sh0 (L := L) (xs := xs) (j_nothing hV ) hA hM hb k
theorem cL_38 {p b L : Nat} {xs : Nat → Int32} {s5 s6 s7 : Option Value} {J : zq_P} {h : zq_H} {V : zV} (hp : p + 4 < L) (hL : L < 2 ^ 31) (hV : ZV V) (hA : XA V h) (hM : MA b V h) (hb : b < 2147483648) (k : zlg b p J) : xL_38 L xs (zE sp_xAte) (zE2 sp_mAte) J (zll p s5 s6 s7) [] h := sh1 hp hL (j_ate hV (xs (p + 1))) hA hM hb k
theorem cL_39 {p b L : Nat} {xs : Nat → Int32} {s5 s6 s7 : Option Value} {J : zq_P} {h : zq_H} {V : zV} (hp : p + 4 < L) (hL : L < 2 ^ 31) (hV : ZV V) (hA : XA V h) (hM : MA b V h) (hb : b < 2147483648) (k : zlg b p J) : xL_39 L xs (zE sp_xEnough) (zE2 sp_mEnough) J (zll p s5 s6 s7) [] h := sh2 hp hL (j_enough hV (xs (p + 1)) (xs (p + 2))) hA hM hb k
theorem cL_40 {p b L : Nat} {xs : Nat → Int32} {s5 s6 s7 : Option Value} {J : zq_P} {h : zq_H} {V : zV} (hp : p + 4 < L) (hL : L < 2 ^ 31) (hV : ZV V) (hA : XA V h) (hM : MA b V h) (hb : b < 2147483648) (k : zlg b p J) : xL_40 L xs (zE sp_xWide) (zE2 sp_mWide) J (zll p s5 s6 s7) [] h := sh2 hp hL (j_wide hV (xs (p + 1)) (xs (p + 2))) hA hM hb k
theorem cL_41 {p b L : Nat} {xs : Nat → Int32} {s5 s6 s7 : Option Value} {J : zq_P} {h : zq_H} {V : zV} (hp : p + 4 < L) (hL : L < 2 ^ 31) (hV : ZV V) (hA : XA V h) (hM : MA b V h) (hb : b < 2147483648) (k : zlg b p J) : xL_41 L xs (zE sp_xSuppers) (zE2 sp_mSuppers) J (zll p s5 s6 s7) [] h := sh2 hp hL (j_suppers hV (xs (p + 1)) (xs (p + 2))) hA hM hb k
theorem cL_42 {p b L : Nat} {xs : Nat → Int32} {s5 s6 s7 : Option Value} {J : zq_P} {h : zq_H} {V : zV} (hp : p + 4 < L) (hL : L < 2 ^ 31) (hV : ZV V) (hA : XA V h) (hM : MA b V h) (hb : b < 2147483648) (k : zlg b p J) : xL_42 L xs sp_xKeep sp_mKeep J (zll p s5 s6 s7) [] h := sh1 hp hL (j_keep hV (xs (p + 1))) hA hM hb k
theorem cL_43 {p b L : Nat} {xs : Nat → Int32} {s5 s6 s7 : Option Value} {J : zq_P} {h : zq_H} {V : zV} (hp : p + 4 < L) (hL : L < 2 ^ 31) (hV : ZV V) (hA : XA V h) (hM : MA b V h) (hb : b < 2147483648) (k : zlg b p J) : xL_43 L xs sp_xAgain sp_mAgain J (zll p s5 s6 s7) [] h := sh1 hp hL (j_again hV (xs (p + 1))) hA hM hb k
theorem cL_44 {p b L : Nat} {xs : Nat → Int32} {s5 s6 s7 : Option Value} {J : zq_P} {h : zq_H} {V : zV} (hp : p + 4 < L) (hL : L < 2 ^ 31) (hV : ZV V) (hA : XA V h) (hM : MA b V h) (hb : b < 2147483648) (k : zlg b p J) : xL_44 L xs sp_xCount sp_mCount J (zll p s5 s6 s7) [] h := sh1 hp hL (j_count hV (xs (p + 1))) hA hM hb k
theorem cL_45 {p b L : Nat} {xs : Nat → Int32} {s5 s6 s7 : Option Value} {J : zq_P} {h : zq_H} {V : zV} (hp : p + 4 < L) (hL : L < 2 ^ 31) (hV : ZV V) (hA : XA V h) (hM : MA b V h) (hb : b < 2147483648) (k : zlg b p J) : xL_45 L xs sp_mRow J (zll p s5 s6 s7) [] h := shY (sv := sp_xRow) hp hL (j_row hA.2.2.1 (xs (p + 1))) hV hA hM hb k
theorem zsw_cons {x v : Int32} {ls : zq_L} {st : List Value} {h : zq_H} {D P : zq_P} {r : List (Int32 × zq_P)} (a : P ls st h) (b : zq_sw x ls st h D r) : zq_sw x ls st h D ((v, P) :: r) := ⟨fun _ => a, fun _ => b⟩
/-- before round i -/
def I_law (i : Nat) : zq_P := fun ls st h => ∃ V s5 s6 s7, ls = zll (5 * i) s5 s6 s7 ∧ st = [] ∧ ZV V ∧ XA V h ∧ MA i V h
def zlwP (L : Nat) (xs : Nat → Int32) (J : zq_P) (n : Nat) : zq_P := match n with
  | 0 => xL_0 L xs sp_xSign sp_mSign J
  | 1 => xL_1 L xs sp_xEnd sp_mEnd J
  | 2 => xL_2 L xs (fun args h Q Q2 => ∃ U, sp_xLoaf U args h Q Q2) (zE2 sp_mLoaf) J J
  | 3 => xL_3 L xs sp_xGuests sp_mGuests J
  | 4 => xL_4 L xs sp_xDeeds sp_mDeeds J
  | 5 => xL_5 L xs (fun args h Q Q2 => ∃ U, sp_xRule U args h Q Q2) (zE2 sp_mRule) J J
  | 6 => xL_6 L xs sp_mCell J
  | 7 => xL_7 L xs sp_mGuest J
  | 8 => xL_8 L xs sp_xWorth sp_mWorth J
  | 9 => xL_9 L xs sp_xTaste sp_mTaste J
  | 10 => xL_10 L xs (zE sp_xSheet) (zE2 sp_mSheet) J
  | 11 => xL_11 L xs sp_xGive sp_mGive J
  | 12 => xL_12 L xs sp_xBack sp_mBack J
  | 13 => xL_13 L xs sp_xMouse sp_mMouse J
  | 14 => xL_14 L xs sp_xSupper sp_mSupper J
  | 15 => xL_15 L xs sp_xUndo sp_mUndo J
  | 16 => xL_16 L xs sp_xSeen sp_mSeen J
  | 17 => xL_17 L xs (zE sp_xEnvy) (zE2 sp_mEnvy) J
  | 18 => xL_18 L xs (zE sp_xWronged) (zE2 sp_mWronged) J
  | 19 => xL_19 L xs (zE sp_xHappy) (zE2 sp_mHappy) J
  | 20 => xL_20 L xs sp_xPieces sp_mPieces J
  | 21 => xL_21 L xs (zE sp_xTrade) (zE2 sp_mTrade) J
  | 22 => xL_22 L xs (zE sp_xSlices) (zE2 sp_mSlices) J
  | 23 => xL_23 L xs (zE sp_xQuarrel) (zE2 sp_mQuarrel) J
  | 24 => xL_24 L xs (zE sp_xStretch) (zE2 sp_mStretch) J
  | 25 => xL_25 L xs (zE sp_xRichest) (zE2 sp_mRichest) J
  | 26 => xL_26 L xs (zE sp_xParts) (zE2 sp_mParts) J
  | 27 => xL_27 L xs (zE sp_xCalm) (zE2 sp_mCalm) J
  | 28 => xL_28 L xs (zE sp_xCuts) (zE2 sp_mCuts) J
  | 29 => xL_29 L xs (zE sp_xByturns) (zE2 sp_mByturns) J
  | 30 => xL_30 L xs (zE sp_xLies) (zE2 sp_mLies) J
  | 31 => xL_31 L xs sp_xChose sp_mChose J
  | 32 => xL_32 L xs sp_xForget sp_mForget J
  | 33 => xL_33 L xs (zE sp_xTastes) (zE2 sp_mTastes) J
  | 34 => xL_34 L xs (zE sp_xOffer) (zE2 sp_mOffer) J
  | 35 => xL_35 L xs (zE sp_xClaims) (zE2 sp_mClaims) J
  | 36 => xL_36 L xs sp_xSettle sp_mSettle J
  | 37 => xL_37 L xs sp_xNothing sp_mNothing J
  | 38 => xL_38 L xs (zE sp_xAte) (zE2 sp_mAte) J
  | 39 => xL_39 L xs (zE sp_xEnough) (zE2 sp_mEnough) J
  | 40 => xL_40 L xs (zE sp_xWide) (zE2 sp_mWide) J
  | 41 => xL_41 L xs (zE sp_xSuppers) (zE2 sp_mSuppers) J
  | 42 => xL_42 L xs sp_xKeep sp_mKeep J
  | 43 => xL_43 L xs sp_xAgain sp_mAgain J
  | 44 => xL_44 L xs sp_xCount sp_mCount J
  | 45 => xL_45 L xs sp_mRow J
  | _ => zi_no
theorem MA_le {b : Nat} {V : zV} {h : zq_H} (k : MA b V h) : MA (b + 1) V h := ⟨MC_le k.1 (Nat.le_succ b), k.2⟩
def zlE : zq_P := fun _ st _ => st = []
theorem zlg_next {i : Nat} : zlg i (5 * i) (xL_next (I_law (i + 1))) := by
  intro V h s5 s6 s7 hV hA hM
  show I_law (i + 1) [some (.ref 150), some (.ref 0), some (.ref 56), some (.ref 102), some (.int (nI (5 * i) + 5)), s5, s6, s7] [] h
  refine ⟨V, s5, s6, s7, ?_, rfl, hV, hA, hM⟩
  rw [show (5 : Int32) = nI 5 from rfl, nI_add]
  rfl
theorem zlw_sw {i L : Nat} {xs : Nat → Int32} {x : Int32} {V : zV} {s5 s6 s7 : Option Value} {h : zq_H} (hp : 5 * i + 4 < L) (hL : L ≤ 2560) (hV : ZV V) (hA : XA V h) (hM : MA i V h) : zi_sw [(0, zlwP L xs (xL_next (I_law (i + 1))) 0), (1, zlwP L xs (xL_next (I_law (i + 1))) 1), (2, zlwP L xs (xL_next (I_law (i + 1))) 2), (3, zlwP L xs (xL_next (I_law (i + 1))) 3), (4, zlwP L xs (xL_next (I_law (i + 1))) 4), (5, zlwP L xs (xL_next (I_law (i + 1))) 5), (6, zlwP L xs (xL_next (I_law (i + 1))) 6), (7, zlwP L xs (xL_next (I_law (i + 1))) 7), (8, zlwP L xs (xL_next (I_law (i + 1))) 8), (9, zlwP L xs (xL_next (I_law (i + 1))) 9), (10, zlwP L xs (xL_next (I_law (i + 1))) 10), (11, zlwP L xs (xL_next (I_law (i + 1))) 11), (12, zlwP L xs (xL_next (I_law (i + 1))) 12), (13, zlwP L xs (xL_next (I_law (i + 1))) 13), (14, zlwP L xs (xL_next (I_law (i + 1))) 14), (15, zlwP L xs (xL_next (I_law (i + 1))) 15), (16, zlwP L xs (xL_next (I_law (i + 1))) 16), (17, zlwP L xs (xL_next (I_law (i + 1))) 17), (18, zlwP L xs (xL_next (I_law (i + 1))) 18), (19, zlwP L xs (xL_next (I_law (i + 1))) 19), (20, zlwP L xs (xL_next (I_law (i + 1))) 20), (21, zlwP L xs (xL_next (I_law (i + 1))) 21), (22, zlwP L xs (xL_next (I_law (i + 1))) 22), (23, zlwP L xs (xL_next (I_law (i + 1))) 23), (24, zlwP L xs (xL_next (I_law (i + 1))) 24), (25, zlwP L xs (xL_next (I_law (i + 1))) 25), (26, zlwP L xs (xL_next (I_law (i + 1))) 26), (27, zlwP L xs (xL_next (I_law (i + 1))) 27), (28, zlwP L xs (xL_next (I_law (i + 1))) 28), (29, zlwP L xs (xL_next (I_law (i + 1))) 29), (30, zlwP L xs (xL_next (I_law (i + 1))) 30), (31, zlwP L xs (xL_next (I_law (i + 1))) 31), (32, zlwP L xs (xL_next (I_law (i + 1))) 32), (33, zlwP L xs (xL_next (I_law (i + 1))) 33), (34, zlwP L xs (xL_next (I_law (i + 1))) 34), (35, zlwP L xs (xL_next (I_law (i + 1))) 35), (36, zlwP L xs (xL_next (I_law (i + 1))) 36), (37, zlwP L xs (xL_next (I_law (i + 1))) 37), (38, zlwP L xs (xL_next (I_law (i + 1))) 38), (39, zlwP L xs (xL_next (I_law (i + 1))) 39), (40, zlwP L xs (xL_next (I_law (i + 1))) 40), (41, zlwP L xs (xL_next (I_law (i + 1))) 41), (42, zlwP L xs (xL_next (I_law (i + 1))) 42), (43, zlwP L xs (xL_next (I_law (i + 1))) 43), (44, zlwP L xs (xL_next (I_law (i + 1))) 44), (45, zlwP L xs (xL_next (I_law (i + 1))) 45)] (xL_next (I_law (i + 1))) (zll (5 * i) s5 s6 s7) [.int x] h := by
  have hL2 : L < 2 ^ 31 := by omega
  have hb : i < 2147483648 := by omega
  have k : zlg i (5 * i) (xL_next (I_law (i + 1))) := zlg_next
  refine zsw_cons (cL_0 (xs := xs) hp hL2 hV hA hM hb k) ?_
  refine zsw_cons (cL_1 (xs := xs) hp hL2 hV hA hM hb k) ?_
  refine zsw_cons (cL_2 (xs := xs) hp hL2 hV hA hM hb k k) ?_
  refine zsw_cons (cL_3 (xs := xs) hp hL2 hV hA hM hb k) ?_
  refine zsw_cons (cL_4 (xs := xs) hp hL2 hV hA hM hb k) ?_
  refine zsw_cons (cL_5 (xs := xs) hp hL2 hV hA hM hb k k) ?_
  refine zsw_cons (cL_6 (xs := xs) hp hL2 hV hA hM hb k) ?_
  refine zsw_cons (cL_7 (xs := xs) hp hL2 hV hA hM hb k) ?_
  refine zsw_cons (cL_8 (xs := xs) hp hL2 hV hA hM hb k) ?_
  refine zsw_cons (cL_9 (xs := xs) hp hL2 hV hA hM hb k) ?_
  refine zsw_cons (cL_10 (xs := xs) hp hL2 hV hA hM hb k) ?_
  refine zsw_cons (cL_11 (xs := xs) hp hL2 hV hA hM hb k) ?_
  refine zsw_cons (cL_12 (xs := xs) hp hL2 hV hA hM hb k) ?_
  refine zsw_cons (cL_13 (xs := xs) hp hL2 hV hA hM hb k) ?_
  refine zsw_cons (cL_14 (xs := xs) hp hL2 hV hA hM hb k) ?_
  refine zsw_cons (cL_15 (xs := xs) hp hL2 hV hA hM hb k) ?_
  refine zsw_cons (cL_16 (xs := xs) hp hL2 hV hA hM hb k) ?_
  refine zsw_cons (cL_17 (xs := xs) hp hL2 hV hA hM hb k) ?_
  refine zsw_cons (cL_18 (xs := xs) hp hL2 hV hA hM hb k) ?_
  refine zsw_cons (cL_19 (xs := xs) hp hL2 hV hA hM hb k) ?_
  refine zsw_cons (cL_20 (xs := xs) hp hL2 hV hA hM hb k) ?_
  refine zsw_cons (cL_21 (xs := xs) hp hL2 hV hA hM hb k) ?_
  refine zsw_cons (cL_22 (xs := xs) hp hL2 hV hA hM hb k) ?_
  refine zsw_cons (cL_23 (xs := xs) hp hL2 hV hA hM hb k) ?_
  refine zsw_cons (cL_24 (xs := xs) hp hL2 hV hA hM hb k) ?_
  refine zsw_cons (cL_25 (xs := xs) hp hL2 hV hA hM hb k) ?_
  refine zsw_cons (cL_26 (xs := xs) hp hL2 hV hA hM hb k) ?_
  refine zsw_cons (cL_27 (xs := xs) hp hL2 hV hA hM hb k) ?_
  refine zsw_cons (cL_28 (xs := xs) hp hL2 hV hA hM hb k) ?_
  refine zsw_cons (cL_29 (xs := xs) hp hL2 hV hA hM hb k) ?_
  refine zsw_cons (cL_30 (xs := xs) hp hL2 hV hA hM hb k) ?_
  refine zsw_cons (cL_31 (xs := xs) hp hL2 hV hA hM hb k) ?_
  refine zsw_cons (cL_32 (xs := xs) hp hL2 hV hA hM hb k) ?_
  refine zsw_cons (cL_33 (xs := xs) hp hL2 hV hA hM hb k) ?_
  refine zsw_cons (cL_34 (xs := xs) hp hL2 hV hA hM hb k) ?_
  refine zsw_cons (cL_35 (xs := xs) hp hL2 hV hA hM hb k) ?_
  refine zsw_cons (cL_36 (xs := xs) hp hL2 hV hA hM hb k) ?_
  refine zsw_cons (cL_37 (xs := xs) hp hL2 hV hA hM hb k) ?_
  refine zsw_cons (cL_38 (xs := xs) hp hL2 hV hA hM hb k) ?_
  refine zsw_cons (cL_39 (xs := xs) hp hL2 hV hA hM hb k) ?_
  refine zsw_cons (cL_40 (xs := xs) hp hL2 hV hA hM hb k) ?_
  refine zsw_cons (cL_41 (xs := xs) hp hL2 hV hA hM hb k) ?_
  refine zsw_cons (cL_42 (xs := xs) hp hL2 hV hA hM hb k) ?_
  refine zsw_cons (cL_43 (xs := xs) hp hL2 hV hA hM hb k) ?_
  refine zsw_cons (cL_44 (xs := xs) hp hL2 hV hA hM hb k) ?_
  refine zsw_cons (cL_45 (xs := xs) hp hL2 hV hA hM hb k) ?_
  exact k V h s5 s6 s7 hV hA (MA_le hM)
theorem zlw_more {i L : Nat} {xs : Nat → Int32} {ls : zq_L} {st : List Value} {h : zq_H} (hp : 5 * i + 4 < L) (hL : L ≤ 2560) (k : I_law i ls st h) : xL_head L xs (zlwP L xs (xL_next (I_law (i + 1)))) zlE (xL_next (I_law (i + 1))) ls st h := by
  obtain ⟨V, s5, s6, s7, rfl, rfl, hV, hA, hM⟩ := k
  refine And.intro rfl (And.intro (fun _ => rfl) (fun _ => And.intro rfl (And.intro (vp_in_nI (by omega) (by omega)) ?_)))
  exact zlw_sw hp hL hV hA hM
theorem zlw_done {i L : Nat} {xs : Nat → Int32} {P : Nat → zq_P} {N : zq_P} {ls : zq_L} {st : List Value} {h : zq_H} (hp : ¬ 5 * i + 4 < L) (hi : i ≤ 513) (k : I_law i ls st h) : xL_head L xs P zlE N ls st h := by
  obtain ⟨V, s5, s6, s7, rfl, rfl, hV, hA, hM⟩ := k
  refine And.intro rfl (And.intro (fun _ => rfl) (fun z => absurd ?_ z))
  show nI L - 5 < nI (5 * i)
  rw [show (5 : Int32) = nI 5 from rfl, Int32.lt_iff_toInt_lt]
  have h1 : (nI (5 * i)).toInt = ((5 * i : Nat) : Int) := nI_toInt (by omega)
  have h2 : (nI L).toInt = (L : Int) := nI_toInt (by omega)
  have h3 : (nI L - nI 5).toInt = (L : Int) - 5 := by
    rw [Int32.toInt_sub, h2, show (nI 5).toInt = 5 from rfl]
    exact Int.bmod_eq_of_le (by omega) (by omega)
  rw [h1, h3]
  omega
theorem law_step {X : zq_X} {d L i : Nat} {xs : Nat → Int32} (C : zq_C X cL_law 8 RL d) (hd : 1300 ≤ d) (hX : zq_Xs X L xs) (hTX : zq_TX X) (hL : L ≤ 2560) (hi : i ≤ 513) (jE : zq_ok X 8 1544 zlE) (jn : 5 * i + 4 < L → zq_ok X 8 23 (I_law (i + 1)) ∧ zq_ok (zxX zxA X) 8 23 (I_law (i + 1)) ∧ zq_ok (zxX zxB X) 8 23 (I_law (i + 1)) ∧ zq_ok (zq_up X) 8 23 (I_law (i + 1))) : zq_ok X 8 23 (I_law i) := by
  by_cases hp : 5 * i + 4 < L
  · obtain ⟨j0, j1, j2, j3⟩ := jn hp
    have kJ := kL_next C j0
    have kJA := kL_next (zxC zxA_ok C) j1
    have kJB := kL_next (zxC zxB_ok C) j2
    have kJU := kL_next (zq_C_up C hTX) j3
    refine zq_ok.mono (P := xL_head L xs (zlwP L xs (xL_next (I_law (i + 1)))) zlE (xL_next (I_law (i + 1)))) (fun ls st h k => zlw_more hp hL k) ?_
    refine kL_head C hX (P := zlwP L xs (xL_next (I_law (i + 1)))) jE kJ ?_ ?_ ?_ ?_ ?_ ?_ ?_ ?_ ?_ ?_ ?_ ?_ ?_ ?_ ?_ ?_ ?_ ?_ ?_ ?_ ?_ ?_ ?_ ?_ ?_ ?_ ?_ ?_ ?_ ?_ ?_ ?_ ?_ ?_ ?_ ?_ ?_ ?_ ?_ ?_ ?_ ?_ ?_ ?_ ?_ ?_
    · exact kL_0 C hX ok_xSign (by omega) ok_mSign (by omega) kJ
    · exact kL_1 C hX ok_xEnd (by omega) ok_mEnd (by omega) kJ
    · exact kL_2 C hX ok2_2 (by omega) (ok_E2 ok_mLoaf) (by omega) kJ kJA
    · exact kL_3 C hX ok_xGuests (by omega) ok_mGuests (by omega) kJ
    · exact kL_4 C hX ok_xDeeds (by omega) ok_mDeeds (by omega) kJ
    · exact kL_5 C hX ok2_5 (by omega) (ok_E2 ok_mRule) (by omega) kJ kJB
    · exact kL_6 C hX hTX (by omega) ok_mCell (by omega) kJU
    · exact kL_7 C hX hTX (by omega) ok_mGuest (by omega) kJU
    · exact kL_8 C hX ok_xWorth (by omega) ok_mWorth (by omega) kJ
    · exact kL_9 C hX ok_xTaste (by omega) ok_mTaste (by omega) kJ
    · exact kL_10 C hX (ok_E ok_xSheet) (by omega) (ok_E2 ok_mSheet) (by omega) kJ
    · exact kL_11 C hX ok_xGive (by omega) ok_mGive (by omega) kJ
    · exact kL_12 C hX ok_xBack (by omega) ok_mBack (by omega) kJ
    · exact kL_13 C hX ok_xMouse (by omega) ok_mMouse (by omega) kJ
    · exact kL_14 C hX ok_xSupper (by omega) ok_mSupper (by omega) kJ
    · exact kL_15 C hX ok_xUndo (by omega) ok_mUndo (by omega) kJ
    · exact kL_16 C hX ok_xSeen (by omega) ok_mSeen (by omega) kJ
    · exact kL_17 C hX (ok_E ok_xEnvy) (by omega) (ok_E2 ok_mEnvy) (by omega) kJ
    · exact kL_18 C hX (ok_E ok_xWronged) (by omega) (ok_E2 ok_mWronged) (by omega) kJ
    · exact kL_19 C hX (ok_E ok_xHappy) (by omega) (ok_E2 ok_mHappy) (by omega) kJ
    · exact kL_20 C hX ok_xPieces (by omega) ok_mPieces (by omega) kJ
    · exact kL_21 C hX (ok_E ok_xTrade) (by omega) (ok_E2 ok_mTrade) (by omega) kJ
    · exact kL_22 C hX (ok_E ok_xSlices) (by omega) (ok_E2 ok_mSlices) (by omega) kJ
    · exact kL_23 C hX (ok_E ok_xQuarrel) (by omega) (ok_E2 ok_mQuarrel) (by omega) kJ
    · exact kL_24 C hX (ok_E ok_xStretch) (by omega) (ok_E2 ok_mStretch) (by omega) kJ
    · exact kL_25 C hX (ok_E ok_xRichest) (by omega) (ok_E2 ok_mRichest) (by omega) kJ
    · exact kL_26 C hX (ok_E ok_xParts) (by omega) (ok_E2 ok_mParts) (by omega) kJ
    · exact kL_27 C hX (ok_E ok_xCalm) (by omega) (ok_E2 ok_mCalm) (by omega) kJ
    · exact kL_28 C hX (ok_E ok_xCuts) (by omega) (ok_E2 ok_mCuts) (by omega) kJ
    · exact kL_29 C hX (ok_E ok_xByturns) (by omega) (ok_E2 ok_mByturns) (by omega) kJ
    · exact kL_30 C hX (ok_E ok_xLies) (by omega) (ok_E2 ok_mLies) (by omega) kJ
    · exact kL_31 C hX ok_xChose (by omega) ok_mChose (by omega) kJ
    · exact kL_32 C hX ok_xForget (by omega) ok_mForget (by omega) kJ
    · exact kL_33 C hX (ok_E ok_xTastes) (by omega) (ok_E2 ok_mTastes) (by omega) kJ
    · exact kL_34 C hX (ok_E ok_xOffer) (by omega) (ok_E2 ok_mOffer) (by omega) kJ
    · exact kL_35 C hX (ok_E ok_xClaims) (by omega) (ok_E2 ok_mClaims) (by omega) kJ
    · exact kL_36 C hX ok_xSettle (by omega) ok_mSettle (by omega) kJ
    · exact kL_37 C hX ok_xNothing (by omega) ok_mNothing (by omega) kJ
    · exact kL_38 C hX (ok_E ok_xAte) (by omega) (ok_E2 ok_mAte) (by omega) kJ
    · exact kL_39 C hX (ok_E ok_xEnough) (by omega) (ok_E2 ok_mEnough) (by omega) kJ
    · exact kL_40 C hX (ok_E ok_xWide) (by omega) (ok_E2 ok_mWide) (by omega) kJ
    · exact kL_41 C hX (ok_E ok_xSuppers) (by omega) (ok_E2 ok_mSuppers) (by omega) kJ
    · exact kL_42 C hX ok_xKeep (by omega) ok_mKeep (by omega) kJ
    · exact kL_43 C hX ok_xAgain (by omega) ok_mAgain (by omega) kJ
    · exact kL_44 C hX ok_xCount (by omega) ok_mCount (by omega) kJ
    · exact kL_45 C hX hTX (by omega) ok_mRow (by omega) kJU
  · refine zq_ok.mono (P := xL_head L xs (fun _ => zi_no) zlE zi_no) (fun ls st h k => zlw_done (P := fun _ => zi_no) (N := zi_no) hp hi k) ?_
    exact kL_head C hX (P := fun _ => zi_no) jE zs_no zs_no zs_no zs_no zs_no zs_no zs_no zs_no zs_no zs_no zs_no zs_no zs_no zs_no zs_no zs_no zs_no zs_no zs_no zs_no zs_no zs_no zs_no zs_no zs_no zs_no zs_no zs_no zs_no zs_no zs_no zs_no zs_no zs_no zs_no zs_no zs_no zs_no zs_no zs_no zs_no zs_no zs_no zs_no zs_no zs_no zs_no
