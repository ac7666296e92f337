/-! THE CLASS AS PURE FUNCTIONS (mine): the reader's registers and rows as one tuple, each method as a function -/
/-- names, kind, place, stuck, number, wordStart, wordEnd, nameStarts, nameEnds, values, versions -/
abbrev RS : Type := Int32 × Int32 × Int32 × Int32 × Int32 × Int32 × Int32 × (Nat → Int32) × (Nat → Int32) × (Nat → Int32) × (Nat → Int32)
def rNm (s : RS) : Int32 := s.1
def rKd (s : RS) : Int32 := s.2.1
def rPl (s : RS) : Int32 := s.2.2.1
def rSk (s : RS) : Int32 := s.2.2.2.1
def rNb (s : RS) : Int32 := s.2.2.2.2.1
def rWs (s : RS) : Int32 := s.2.2.2.2.2.1
def rWe (s : RS) : Int32 := s.2.2.2.2.2.2.1
def rNs (s : RS) : Nat → Int32 := s.2.2.2.2.2.2.2.1
def rNe (s : RS) : Nat → Int32 := s.2.2.2.2.2.2.2.2.1
def rVs (s : RS) : Nat → Int32 := s.2.2.2.2.2.2.2.2.2.1
def rVr (s : RS) : Nat → Int32 := s.2.2.2.2.2.2.2.2.2.2
def sNm (s : RS) (x : Int32) : RS := (x, s.2)
def sKd (s : RS) (x : Int32) : RS := (s.1, x, s.2.2)
def sPl (s : RS) (x : Int32) : RS := (s.1, s.2.1, x, s.2.2.2)
def sSk (s : RS) (x : Int32) : RS := (s.1, s.2.1, s.2.2.1, x, s.2.2.2.2)
def sNb (s : RS) (x : Int32) : RS := (s.1, s.2.1, s.2.2.1, s.2.2.2.1, x, s.2.2.2.2.2)
def sWs (s : RS) (x : Int32) : RS := (s.1, s.2.1, s.2.2.1, s.2.2.2.1, s.2.2.2.2.1, x, s.2.2.2.2.2.2)
def sWe (s : RS) (x : Int32) : RS := (s.1, s.2.1, s.2.2.1, s.2.2.2.1, s.2.2.2.2.1, s.2.2.2.2.2.1, x, s.2.2.2.2.2.2.2)
def sNs (s : RS) (x : Nat → Int32) : RS := (s.1, s.2.1, s.2.2.1, s.2.2.2.1, s.2.2.2.2.1, s.2.2.2.2.2.1, s.2.2.2.2.2.2.1, x, s.2.2.2.2.2.2.2.2)
def sNe (s : RS) (x : Nat → Int32) : RS := (s.1, s.2.1, s.2.2.1, s.2.2.2.1, s.2.2.2.2.1, s.2.2.2.2.2.1, s.2.2.2.2.2.2.1, s.2.2.2.2.2.2.2.1, x, s.2.2.2.2.2.2.2.2.2)
def sVs (s : RS) (x : Nat → Int32) : RS := (s.1, s.2.1, s.2.2.1, s.2.2.2.1, s.2.2.2.2.1, s.2.2.2.2.2.1, s.2.2.2.2.2.2.1, s.2.2.2.2.2.2.2.1, s.2.2.2.2.2.2.2.2.1, x, s.2.2.2.2.2.2.2.2.2.2)
def sVr (s : RS) (x : Nat → Int32) : RS := (s.1, s.2.1, s.2.2.1, s.2.2.2.1, s.2.2.2.2.1, s.2.2.2.2.2.1, s.2.2.2.2.2.2.1, s.2.2.2.2.2.2.2.1, s.2.2.2.2.2.2.2.2.1, s.2.2.2.2.2.2.2.2.2.1, x)
/-- an answer that is a boolean, as the machine has it -/
def bI : Bool → Int32
  | true => 1
  | false => 0
theorem bI_0 {b : Bool} (h : bI b = 0) : b = false := by cases b with | false => rfl | true => exact absurd h (by decide)
theorem bI_1 {b : Bool} (h : ¬ bI b = 0) : b = true := by cases b with | true => rfl | false => exact absurd rfl h
theorem bI_nar (b : Bool) : narrow .boolean (.int (bI b)) = .int (bI b) := by cases b <;> rfl
/-- both, one behind the other -/
def bnd (x : Bool × RS) (k : RS → Bool × RS) : Bool × RS := match x.1 with
  | true => k x.2
  | false => (false, x.2)
theorem bnd_t {x : Bool × RS} {k : RS → Bool × RS} (h : x.1 = true) : bnd x k = k x.2 := by rw [bnd, h]
theorem bnd_f {x : Bool × RS} {k : RS → Bool × RS} (h : x.1 = false) : bnd x k = (false, x.2) := by rw [bnd, h]
/-- the text: the tape's characters and how many -/
abbrev TX : Type := (Nat → Int32) × Int32
def mAt (T : TX) (i : Int32) : Int32 := if i < 0 then -1 else if T.2 ≤ i then -1 else T.1 i.toNatClampNeg
abbrev fMark (T : TX) (s : RS) : Int32 := mAt T (rPl s)
abbrev fStop (s : RS) (w : Int32) : Bool × RS := (false, sSk s w)
abbrev nxt (s : RS) : RS := sPl s (rPl s + 1)
def fSkip (T : TX) (s : RS) (c : Int32) : Bool × RS := if fMark T s = c then (true, nxt s) else (false, s)
def fTake (T : TX) (s : RS) (c : Int32) : Bool × RS := if fMark T s = c then (true, nxt s) else fStop s (rPl s)
def fAll (T : TX) : List Int32 → RS → Bool × RS
  | [], s => (true, s)
  | c :: cs, s => if fMark T s = c then fAll T cs (nxt s) else fStop s (rPl s)
def isD (c : Int32) : Bool := if c < 48 then false else if 57 < c then false else true
def isL (c : Int32) : Bool := if c < 97 then (if c = 45 then true else false) else if c ≤ 122 then true else (if c = 45 then true else false)
abbrev numS (T : TX) (s : RS) : RS := sPl (sNb s (rNb s * 10 + (fMark T s - 48))) (rPl s + 1)
def fNumL (T : TX) : Nat → RS → RS
  | 0, s => s
  | k + 1, s => if isD (fMark T s) = true then fNumL T k (numS T s) else s
def fNumE (s : RS) (start most : Int32) : Bool × RS := if rPl s = start then fStop s (rPl s) else if rNb s ≤ most then (true, s) else fStop s start
def fNum (T : TX) (s : RS) (most : Int32) : Bool × RS := fNumE (fNumL T 5 (sNb s 0)) (rPl s) most
def fLetL (T : TX) : Nat → RS → RS
  | 0, s => s
  | k + 1, s => if isL (fMark T s) = true then fLetL T k (nxt s) else s
def fLetE (s : RS) (most : Int32) : Bool × RS := if rPl s = rWs s then fStop (sWe s (rPl s)) (rPl s) else if rPl s - rWs s ≤ most then (true, sWe s (rPl s)) else fStop (sWe s (rPl s)) (rWs s)
def fLet (T : TX) (s : RS) (most : Nat) : Bool × RS := fLetE (fLetL T (most + 1) (sWs s (rPl s))) (nI most)
def wEq (T : TX) (a : Int32) : List Int32 → Nat → Bool
  | [], _ => true
  | c :: cs, j => if mAt T (a + nI j) = c then wEq T a cs (j + 1) else false
def fIsW (T : TX) (s : RS) (w : List Int32) : Bool := if rWe s - rWs s = nI w.length then wEq T (rWs s) w 0 else false
def eqL (T : TX) (a b : Int32) : Nat → Nat → Bool
  | 0, _ => true
  | k + 1, j => if mAt T (a + nI j) = mAt T (b + nI j) then eqL T a b k (j + 1) else false
def fIsF (T : TX) (s : RS) (a b : Int32) : Bool := if rWe s - rWs s = b - a then eqL T (rWs s) a (b - a).toNatClampNeg 0 else false
def wasL (T : TX) (s : RS) : Nat → Nat → Bool
  | 0, _ => false
  | k + 1, i => if rNm s ≤ nI i then false else if fIsF T s (rNs s i) (rNe s i) = true then true else wasL T s k (i + 1)
abbrev fWas (T : TX) (s : RS) : Bool := wasL T s 100 0
abbrev addN (s : RS) : RS := sNm (sNe (sNs s (upd (rNs s) (rNm s).toNatClampNeg (rWs s))) (upd (rNe s) (rNm s).toNatClampNeg (rWe s))) (rNm s + 1)
def fNamE (T : TX) (s : RS) : Bool × RS := if 100 ≤ rNm s then fStop s (rWs s) else if fWas T s = true then fStop s (rWs s) else (true, addN s)
def fNam (T : TX) (s : RS) : Bool × RS := bnd (fLet T s 20) (fun s => bnd (fTake T s 58) (fun s => fNamE T s))
def fAnyL (T : TX) : Nat → RS → RS
  | 0, s => s
  | k + 1, s => if fMark T s = -1 then s else if fMark T s = 10 then s else fAnyL T k (nxt s)
/-- a Head's rows -/
def hSet (v : Nat → Int32) (what x : Int32) : Nat → Int32 := if what < 0 then v else if 18 ≤ what then v else upd v what.toNatClampNeg x
abbrev hRng (v : Nat → Int32) (a b c : Int32) : Nat → Int32 := upd (upd (upd v 3 a) 4 b) 5 c
abbrev hKey (v : Nat → Int32) (c : Int32) : Nat → Int32 := upd v 9 (v 9 ||| ((1 : Int32) <<< ((c - 97) &&& 31)))
def hasL (v r : Nat → Int32) (x : Int32) : Nat → Nat → Bool
  | 0, _ => false
  | k + 1, i => if v 7 ≤ nI i then false else if r i = x then true else hasL v r x k (i + 1)
abbrev hHas (v r : Nat → Int32) (x : Int32) : Bool := hasL v r x 8 0
def hAdd (v r : Nat → Int32) (x : Int32) : (Nat → Int32) × (Nat → Int32) := if hHas v r x = true then (v, r) else if v 7 < 0 then (v, r) else if 8 ≤ v 7 then (v, r) else (upd v 7 (v 7 + 1), upd r (v 7).toNatClampNeg x)
abbrev dSet (s : RS) (what x : Int32) : RS := sVs s (hSet (rVs s) what x)
abbrev dAdd (s : RS) (x : Int32) : RS := sVr (sVs s (hAdd (rVs s) (rVr s) x).1) (hAdd (rVs s) (rVr s) x).2
/-- the range -/
def fRngE (T : TX) (s : RS) (from0 : Int32) : Bool × RS := bnd (fTake T s 45) (fun s => if isD (fMark T s) = true then bnd (fNum T s 99999) (fun s => if rNb s < from0 then (true, s) else (true, sVs s (hRng (rVs s) 1 from0 (rNb s)))) else (true, sVs s (hRng (rVs s) 2 from0 (-1))))
def fRng (T : TX) (s : RS) (w : List Int32) : Bool × RS := bnd (fAll T w s) (fun s => bnd (fNum T (fSkip T s 45).2 99999) (fun s2 => if (fSkip T s 45).1 = true then (true, sVs s2 (hRng (rVs s2) 3 (rNb s2) (-1))) else fRngE T s2 (rNb s2)))
/-- if-none-match, from the i-th number on -/
def fVerL (T : TX) : Nat → RS → Bool × RS
  | 0, s => (true, s)
  | k + 1, s => bnd (fTake T s 34) (fun s => bnd (fNum T s 99999) (fun s => bnd (fTake T s 34) (fun s => if k = 0 then (true, dAdd s (rNb s)) else if (fSkip T (dAdd s (rNb s)) 44).1 = true then bnd (fTake T (fSkip T (dAdd s (rNb s)) 44).2 32) (fun s => fVerL T k s) else (true, (fSkip T (dAdd s (rNb s)) 44).2))))
def fVer (T : TX) (s : RS) : Bool × RS := if (fSkip T s 42).1 = true then (true, dSet (fSkip T s 42).2 6 1) else fVerL T 8 (fSkip T s 42).2
def fLen (T : TX) (s : RS) : Bool × RS := bnd (fNum T s 255) (fun s => (true, dSet s 8 (rNb s)))
abbrev keyS (T : TX) (s : RS) : RS := nxt (sVs s (hKey (rVs s) (fMark T s)))
def fKeyL (T : TX) : Nat → RS → Bool × RS
  | 0, s => (true, s)
  | k + 1, s => if fMark T s < 97 then fStop s (rPl s) else if fMark T s ≤ 104 then (if k = 0 then (true, keyS T s) else if (fSkip T (keyS T s) 32).1 = true then fKeyL T k (fSkip T (keyS T s) 32).2 else (true, (fSkip T (keyS T s) 32).2)) else fStop s (rPl s)
/-- cache-control -/
def fBare (T : TX) (s : RS) : RS := if fIsW T s t_no_cache = true then dSet s 10 1 else if rKd s = 1 then (if fIsW T s t_no_store = true then dSet s 15 1 else s) else if fIsW T s t_only_if_cached = true then dSet s 11 1 else if fIsW T s t_max_stale = true then dSet s 13 (-2) else s
def fWith (T : TX) (s : RS) : RS := if fIsW T s t_max_age = true then dSet s 12 (rNb s) else if rKd s = 1 then (if fIsW T s t_stale_if_error = true then dSet s 16 (rNb s) else if fIsW T s t_stale_while_revalidate = true then dSet s 17 (rNb s) else s) else if fIsW T s t_max_stale = true then dSet s 13 (rNb s) else if fIsW T s t_min_fresh = true then dSet s 14 (rNb s) else s
def lisE (T : TX) (k : RS → Bool × RS) (s : RS) : Bool × RS := if (fSkip T s 44).1 = true then bnd (fTake T (fSkip T s 44).2 32) k else (true, (fSkip T s 44).2)
def fLisL (T : TX) : Nat → RS → Bool × RS
  | 0, s => fStop s (rPl s)
  | k + 1, s => bnd (fLet T s 30) (fun s => if (fSkip T s 61).1 = true then bnd (fNum T (fSkip T s 61).2 99999) (fun s => lisE T (fun s => fLisL T k s) (fWith T s)) else lisE T (fun s => fLisL T k s) (fBare T (fSkip T s 61).2))
/-- a VALUE -/
def fValE (T : TX) (s : RS) : Bool × RS := if fIsW T s t_cache_control = true then fLisL T 300 s else if rKd s = 0 then (if fIsW T s t_range = true then fRng T s t_bytes else if fIsW T s t_if_none_match = true then fVer T s else (true, fAnyL T 300 s)) else if rKd s = 1 then (if fIsW T s t_length = true then fLen T s else if fIsW T s t_keys = true then fKeyL T 8 s else (true, fAnyL T 300 s)) else (true, fAnyL T 300 s)
abbrev fVal (T : TX) (s : RS) : Bool × RS := fValE T (fSkip T s 32).2
/-- the first LINE -/
def fVerb (T : TX) (s : RS) : Bool × RS := if rKd s = 1 then fAll T t_PUT (dSet s 0 3) else if fMark T s = 72 then fAll T t_HEAD (dSet s 0 2) else fAll T t_GET (dSet s 0 1)
def fTgtE (T : TX) (s : RS) : Bool × RS := if rKd s = 1 then (true, s) else if (fSkip T s 47).1 = true then bnd (fNum T (fSkip T s 47).2 3) (fun s => (true, dSet s 2 (rNb s))) else (true, (fSkip T s 47).2)
def fTgt (T : TX) (s : RS) : Bool × RS := bnd (fNum T s 31) (fun s => fTgtE T (dSet s 1 (rNb s)))
def fFst (T : TX) (s : RS) : Bool × RS := bnd (fVerb T s) (fun s => bnd (fTake T s 32) (fun s => bnd (fTake T s 47) (fun s => bnd (fTgt T s) (fun s => bnd (fTake T s 10) (fun s => (true, s))))))
/-- the whole TEXT -/
def fEnd (T : TX) (s : RS) : Bool × RS := if fMark T s = -1 then (true, s) else fStop s (rPl s)
def fTxtL (T : TX) : Nat → RS → Bool × RS
  | 0, s => fStop s (rPl s)
  | k + 1, s => if (fSkip T s 10).1 = true then fEnd T (fSkip T s 10).2 else bnd (fNam T (fSkip T s 10).2) (fun s => bnd (fVal T s) (fun s => bnd (fTake T s 10) (fun s => fTxtL T k s)))
def at0 (k : Nat) : Int32 := ([0, 0, 0, 0, -1, -1, 0, 0, 0, 0, 0, 0, -1, -1, -1, 0, -1, -1] : List Int32).getD k 0
def fTxt (T : TX) (s : RS) (kd : Int32) : Bool × RS := bnd (fFst T (sVs (sSk (sPl (sNm (sKd s kd) 0) 0) (-1)) (va_cpy at0 (rVs s) 0 0 18))) (fun s => fTxtL T 101 s)
/-- typing -/
def byW (w : Int64) (i : Int32) : Int32 := ((w.toUInt64 >>> ((8 * i).toInt64.toUInt64 &&& Int64.toUInt64 63)).toInt64).toInt32 &&& 255
def mayS (c : Int32) : Bool := if c = 10 then true else if c < 32 then false else if 126 < c then false else true
def appOk (w : Int64) : Nat → Nat → Bool
  | 0, _ => true
  | k + 1, i => if mayS (byW w (nI i)) = true then appOk w k (i + 1) else false
def appW (w : Int64) : Nat → TX → TX
  | 0, T => T
  | k + 1, T => appW w k (upd T.1 T.2.toNatClampNeg (vp_nar .char ((byW w (nI k)).toUInt32 % 65536).toInt32), T.2 + 1)
def fApp (T : TX) (w : Int64) (n : Int32) : Bool × TX := if n < 1 then (false, T) else if 8 < n then (false, T) else if n ≤ 300 - T.2 then (if appOk w n.toNatClampNeg 0 = true then (true, appW w n.toNatClampNeg T) else (false, T)) else (false, T)
/-- a Head's answers -/
def hGet (v : Nat → Int32) (what : Int32) : Int32 := if what < 0 then -1 else if 18 ≤ what then -1 else v what.toNatClampNeg
def hCov (v r : Nat → Int32) (x : Int32) : Bool := if v 6 = 1 then true else if hHas v r x = true then true else false
def iMin (x y : Int32) : Int32 := if y < x then y else x
def iMax (x y : Int32) : Int32 := if x < y then y else x
def hFst (v : Nat → Int32) (len : Int32) : Int32 := if v 3 = 1 then v 4 else if v 3 = 2 then v 4 else if v 3 = 3 then len - iMin (v 4) len else 0
def hLst (v : Nat → Int32) (len : Int32) : Int32 := if v 3 = 1 then iMin (v 5) (len - 1) else len - 1
