/-! what each call answers and leaves, as functions of the mathematical state (in the order in which the model writes) -/
def inB (v lw hi : Int32) : Bool := decide (lw ≤ v) && decide (v ≤ hi)
def b2i (b : Bool) : Int32 := match b with | true => 1 | false => 0
theorem b2i_t {b : Bool} (h : ¬ b2i b = 0) : b = true := by cases b <;> first | rfl | exact absurd rfl h
theorem b2i_f {b : Bool} (h : b2i b = 0) : b = false := by cases b <;> first | rfl | (exact absurd h (by decide))
abbrev nn (x : Int32) : Nat := x.toNatClampNeg
abbrev th (S : St) (t : Int32) : St := s1 S 0 8 0 t
def isRes (S : St) (x : Int32) : Bool := inB x 0 (S.1 0 0 0 - 1)
def isLot (S : St) (x : Int32) : Bool := inB x 0 (S.1 0 1 0 - 1)
def isMou (S : St) (x : Int32) : Bool := inB x 0 (S.1 0 2 0 - 1)
def isMac (S : St) (x : Int32) : Bool := inB x 0 (S.1 0 3 0 - 1)
def isOrd (S : St) (x : Int32) : Bool := inB x 0 (S.1 0 4 0 - 1)
def isCav (S : St) (mo ca : Int32) : Bool := isMou S mo && inB ca 0 (S.1 6 (nn mo) 0 - 1)
def mx (x y : Int32) : Int32 := if x < y then y else x
def mn (x y : Int32) : Int32 := if y < x then y else x
def toDry (S : St) (k : Nat) : Int32 := mx 0 (S.1 1 (nn (S.1 3 k 0)) 0 - S.1 5 k 0)
def dryT (S : St) (r : Int32) (k : Nat) : Int32 := if S.1 3 k 0 = r ∧ toDry S k = 0 then S.1 4 k 0 else 0
def dryOfN (S : St) (r : Int32) : Nat → Int32
  | 0 => 0
  | n + 1 => dryOfN S r n + dryT S r n
def dryOf (S : St) (r : Int32) : Int32 := dryOfN S r (nn (S.1 0 1 0))
def opT (S : St) (mo k : Nat) : Int32 := if S.1 11 mo k = 0 then 1 else 0
def openN (S : St) (mo : Nat) : Nat → Int32
  | 0 => 0
  | n + 1 => openN S mo n + opT S mo n
def opn (S : St) (mo : Nat) : Int32 := openN S mo (nn (S.1 6 mo 0))
def mntN (S : St) (x : Int32) : Nat → Bool
  | 0 => false
  | n + 1 => mntN S x n || decide (S.1 15 n 0 = x)
def mnt (S : St) (x : Int32) : Bool := mntN S x (nn (S.1 0 3 0))
def fails (S : St) (mo k : Nat) : St := s1 S 11 mo k (if S.1 11 mo k = 0 ∧ S.1 13 mo k < S.1 12 mo k then 0 else 1)
def shf (S : St) (k : Nat) : St :=
  s1 (s1 (s1 S 3 k 0 (S.1 3 (k + 1) 0)) 4 k 0 ((s1 S 3 k 0 (S.1 3 (k + 1) 0)).1 4 (k + 1) 0)) 5 k 0 ((s1 (s1 S 3 k 0 (S.1 3 (k + 1) 0)) 4 k 0 ((s1 S 3 k 0 (S.1 3 (k + 1) 0)).1 4 (k + 1) 0)).1 5 (k + 1) 0)
def shfN (S : St) (k : Nat) : Nat → St
  | 0 => S
  | n + 1 => shfN (shf S k) (k + 1) n
def lev (S : St) (lot : Nat) : St := shfN (s1 S 0 1 0 (S.1 0 1 0 - 1)) lot (nn (S.1 0 1 0 - 1) - lot)
def tkI (S : St) (r left : Int32) (k : Nat) : Int32 := if S.1 3 k 0 = r ∧ toDry S k = 0 then mn left (S.1 4 k 0) else 0
def tkN (S : St) (r left : Int32) : Nat → St × Int32
  | 0 => (S, left)
  | n + 1 => (s1 (tkN S r left n).1 4 n 0 ((tkN S r left n).1.1 4 n 0 - tkI (tkN S r left n).1 r (tkN S r left n).2 n), (tkN S r left n).2 - tkI (tkN S r left n).1 r (tkN S r left n).2 n)
def takes (S : St) (r g : Int32) : St := (tkN S r g (nn (S.1 0 1 0))).1
def mkS (S : St) (mo k : Nat) : St := if S.1 11 mo k = 0 then fails (s1 S 13 mo k (S.1 13 mo k + 1)) mo k else S
def mkN (S : St) (mo : Nat) : Nat → St
  | 0 => S
  | n + 1 => mkS (mkN S mo n) mo n
/-! a shot -/
def sMo (S : St) (o : Nat) : Nat := nn (S.1 17 o 0)
def sRe (S : St) (o : Nat) : Nat := nn (S.1 18 o 0)
def sMany (S : St) (o : Nat) : Int32 := opn S (sMo S o)
def sGrams (S : St) (o : Nat) : Int32 := sMany S o * S.1 7 (sMo S o) 0 + S.1 8 (sMo S o) 0
def sBack (S : St) (o : Nat) : Int32 := mn (S.1 2 (sRe S o) 0) (sGrams S o * S.1 20 o 0 / 100)
def sOK (S : St) (o : Nat) : Bool := !decide (sMany S o = 0) && !decide (dryOf S (S.1 18 o 0) < sGrams S o - sBack S o)
def sS1 (S : St) (o : Nat) : St := s1 S 2 (sRe S o) 0 (S.1 2 (sRe S o) 0 - sBack S o)
def sS2 (S : St) (o : Nat) : St := takes (sS1 S o) (S.1 18 o 0) (sGrams S o - sBack S o)
def sS3 (S : St) (o : Nat) : St := mkN (sS2 S o) (sMo S o) (nn ((sS2 S o).1 6 (sMo S o) 0))
def sGets (S : St) (o : Nat) : Int32 := mn (sMany S o) ((sS3 S o).1 19 o 0)
def sS4 (S : St) (o : Nat) : St := s1 (sS3 S o) 19 o 0 ((sS3 S o).1 19 o 0 - sGets S o)
def sS5 (S : St) (o : Nat) : St := s1 (sS4 S o) 2 (sRe S o) 0 ((sS4 S o).1 2 (sRe S o) 0 + ((sS4 S o).1 8 (sMo S o) 0 + (sMany S o - sGets S o) * (sS4 S o).1 7 (sMo S o) 0))
def sS6 (S : St) (o : Nat) : St := s1 (sS5 S o) 21 o 0 ((sS5 S o).1 21 o 0 + 1)
def sS7 (S : St) (o : Nat) : St := s2 (sS6 S o) 2 o ((sS6 S o).2 2 o + (sBack S o).toInt64)
def sS8 (S : St) (o : Nat) : St := s1 (sS7 S o) 22 o 0 (mx ((sS7 S o).1 22 o 0) (100 * sBack S o / sGrams S o))
def sS9 (S : St) (o : Nat) : St := s1 (sS8 S o) 0 6 0 ((sS8 S o).1 0 6 0 + 1)
def sS10 (S : St) (o : Nat) : St := s1 (sS9 S o) 0 7 0 ((sS9 S o).1 0 7 0 + sGets S o)
def sS11 (S : St) (o : Nat) : St := s2 (sS10 S o) 0 0 ((sS10 S o).2 0 0 + (sGrams S o).toInt64)
def shoot (S : St) (o : Nat) : St := s2 (sS11 S o) 1 0 ((sS11 S o).2 1 0 + (sBack S o).toInt64)
/-! an hour -/
def shl (S : St) (o : Nat) (parts : Int32) : Nat → St × Int32
  | 0 => (S, parts)
  | n + 1 => if 0 < S.1 19 o 0 then (if sOK S o then shl (shoot S o) o (parts + sGets S o) n else (S, parts)) else (S, parts)
def mcS (S : St) (parts : Int32) (k : Nat) : St × Int32 := if S.1 16 k 0 = -1 then (S, parts) else shl S (nn (S.1 16 k 0)) parts (nn (3600 / S.1 10 (nn (S.1 15 k 0)) 0))
def mcN (S : St) : Nat → St × Int32
  | 0 => (S, 0)
  | n + 1 => mcS (mcN S n).1 (mcN S n).2 n
def dryS (S : St) (k : Nat) : St := if S.1 4 k 0 = 0 then lev (s1 S 5 k 0 (S.1 5 k 0 + 1)) k else s1 S 5 k 0 (S.1 5 k 0 + 1)
def dryN (S : St) : Nat → St
  | 0 => S
  | n + 1 => dryN (dryS S n) n
def hourM (S : St) : St × Int32 := mcN S (nn (S.1 0 3 0))
def hourD (S : St) : St := dryN (hourM S).1 (nn ((hourM S).1.1 0 1 0))
def hour (S : St) : St × Int32 := (s1 (hourD S) 0 5 0 ((hourD S).1 0 5 0 + 1), (hourM S).2)
def hrN (S : St) (parts : Int32) : Nat → St × Int32
  | 0 => (S, parts)
  | n + 1 => hrN (hour S).1 (parts + (hour S).2) n
/-! the calls -/
def p_addResin (S : St) (x : Int32) : St × Int32 :=
  if inB x 0 9 = false then (th S 1, 0) else if S.1 0 0 0 = 4 then (th S 2, 0) else
  (s1 (s1 (th S 0) 1 (nn (S.1 0 0 0)) 0 x) 0 0 0 (S.1 0 0 0 + 1), S.1 0 0 0 + 1 - 1)
def p_fill (S : St) (r g : Int32) : St × Int32 :=
  if isRes S r = false then (th S 1, 0) else if inB g 1 99999 = false then (th S 2, 0) else if S.1 0 1 0 = 3 then (th S 3, 0) else
  (s1 (s1 (s1 (s1 (th S 0) 3 (nn (S.1 0 1 0)) 0 r) 4 (nn (S.1 0 1 0)) 0 g) 5 (nn (S.1 0 1 0)) 0 0) 0 1 0 (S.1 0 1 0 + 1), S.1 0 1 0 + 1)
def p_empty (S : St) (x : Int32) : St × Int32 := if isLot S x = false then (th S 1, 0) else (lev (th S 0) (nn x), S.1 4 (nn x) 0)
def p_lots (S : St) : St × Int32 := (th S 0, S.1 0 1 0)
def p_hoursToDry (S : St) (x : Int32) : St × Int32 := if isLot S x = false then (th S 1, 0) else (th S 0, toDry S (nn x))
def p_dry (S : St) (x : Int32) : St × Int32 := if isRes S x = false then (th S 1, 0) else (th S 0, dryOf S x)
def p_regrind (S : St) (x : Int32) : St × Int32 := if isRes S x = false then (th S 1, 0) else (th S 0, S.1 2 (nn x) 0)
def livN (S : St) (mo : Nat) : Nat → St
  | 0 => S
  | n + 1 => s1 (livN S mo n) 12 mo n 9999
def okMould (c q w f y : Int32) : Bool := inB c 1 8 && inB q 1 200 && inB w 0 200 && inB f 1 999 && inB y 60 3600
def p_addMould (S : St) (c q w f y : Int32) : St × Int32 :=
  if okMould c q w f y = false then (th S 1, 0) else if S.1 0 2 0 = 5 then (th S 2, 0) else
  (s1 (livN (s1 (s1 (s1 (s1 (s1 (th S 0) 6 (nn (S.1 0 2 0)) 0 c) 7 (nn (S.1 0 2 0)) 0 q) 8 (nn (S.1 0 2 0)) 0 w) 9 (nn (S.1 0 2 0)) 0 f) 10 (nn (S.1 0 2 0)) 0 y) (nn (S.1 0 2 0)) 8) 0 2 0 (S.1 0 2 0 + 1), S.1 0 2 0 + 1 - 1)
def p_setLife (S : St) (mo ca x : Int32) : St × Int32 :=
  if isCav S mo ca = false then (th S 1, 0) else if inB x 1 9999 = false then (th S 2, 0) else
  (fails (s1 (th S 0) 12 (nn mo) (nn ca) x) (nn mo) (nn ca), S.1 13 (nn mo) (nn ca))
def p_block (S : St) (mo ca : Int32) : St × Int32 :=
  if isCav S mo ca = false then (th S 1, 0) else if S.1 11 (nn mo) (nn ca) = 0 then (s1 (th S 0) 11 (nn mo) (nn ca) 1, opn (s1 (th S 0) 11 (nn mo) (nn ca) 1) (nn mo)) else (th S 2, 0)
def p_repair (S : St) (mo ca : Int32) : St × Int32 :=
  if isCav S mo ca = false then (th S 1, 0) else if S.1 11 (nn mo) (nn ca) = 0 then (th S 2, 0) else if mnt S mo = true then (th S 2, 0) else
  (s1 (s1 (th S 0) 11 (nn mo) (nn ca) 0) 13 (nn mo) (nn ca) 0, opn (s1 (s1 (th S 0) 11 (nn mo) (nn ca) 0) 13 (nn mo) (nn ca) 0) (nn mo))
/-- the first open cavity from k on, among the next n -/
def nxt (S : St) (mo k : Nat) : Nat → Option Nat
  | 0 => none
  | n + 1 => if S.1 11 mo k = 0 then some k else nxt S mo (k + 1) n
def nxtA (S : St) (mo : Nat) (f : Int32) : Option Nat := nxt S mo (nn f) (nn (S.1 6 mo 0) - nn f)
def p_nextOpen (S : St) (mo f : Int32) : St × Int32 :=
  if isMou S mo = false then (th S 1, 0) else match nxtA S (nn mo) f with
    | none => (th S 2, 0)
    | some k => (th S 0, nI k)
def p_addMachine (S : St) (x : Int32) : St × Int32 :=
  if inB x 1 999 = false then (th S 1, 0) else if S.1 0 3 0 = 3 then (th S 2, 0) else
  (s1 (s1 (s1 (s1 (th S 0) 14 (nn (S.1 0 3 0)) 0 x) 15 (nn (S.1 0 3 0)) 0 (-1)) 16 (nn (S.1 0 3 0)) 0 (-1)) 0 3 0 (S.1 0 3 0 + 1), S.1 0 3 0 + 1 - 1)
def p_mount (S : St) (a mo : Int32) : St × Int32 :=
  if isMac S a = false then (th S 1, 0) else if isMou S mo = false then (th S 1, 0) else if S.1 14 (nn a) 0 < S.1 9 (nn mo) 0 then (th S 2, 0) else if mnt S mo = true then (th S 3, 0) else
  (s1 (s1 (th S 0) 15 (nn a) 0 mo) 16 (nn a) 0 (-1), S.1 15 (nn a) 0)
def p_run (S : St) (a o : Int32) : St × Int32 :=
  if isMac S a = false then (th S 1, 0) else if isOrd S o = false then (th S 1, 0) else if S.1 15 (nn a) 0 = S.1 17 (nn o) 0 then (if S.1 19 (nn o) 0 = 0 then (th S 3, 0) else (s1 (th S 0) 16 (nn a) 0 o, 3600 / S.1 10 (nn (S.1 15 (nn a) 0)) 0)) else (th S 2, 0)
def p_order (S : St) (mo r q w : Int32) : St × Int32 :=
  if isMou S mo = false then (th S 1, 0) else if isRes S r = false then (th S 1, 0) else if inB q 1 5000 = false then (th S 2, 0) else if inB w 0 50 = false then (th S 2, 0) else if S.1 0 4 0 = 8 then (th S 3, 0) else
  (s1 (s1 (s1 (s1 (s1 (th S 0) 17 (nn (S.1 0 4 0)) 0 mo) 18 (nn (S.1 0 4 0)) 0 r) 19 (nn (S.1 0 4 0)) 0 q) 20 (nn (S.1 0 4 0)) 0 w) 0 4 0 (S.1 0 4 0 + 1), S.1 0 4 0 + 1 - 1)
def p_lacks (S : St) (x : Int32) : St × Int32 := if isOrd S x = false then (th S 1, 0) else (th S 0, S.1 19 (nn x) 0)
def hN (S : St) (o : Nat) : Int32 := ((S.1 19 o 0 + sMany S o - 1) / sMany S o + 3600 / S.1 10 (sMo S o) 0 - 1) / (3600 / S.1 10 (sMo S o) 0)
def p_hoursNeeded (S : St) (x : Int32) : St × Int32 :=
  if isOrd S x = false then (th S 1, 0) else if 0 < S.1 19 (nn x) 0 then (if sMany S (nn x) = 0 then (th S 2, 0) else (th S 0, hN S (nn x))) else (th S 0, 0)
def p_shots (S : St) (x : Int32) : St × Int32 := if isOrd S x = false then (th S 1, 0) else (th S 0, S.1 21 (nn x) 0)
def p_regrindIn (S : St) (x : Int32) : St × Int64 := if isOrd S x = false then (th S 1, 0) else (th S 0, S.2 2 (nn x))
def p_greatestShare (S : St) (x : Int32) : St × Int32 := if isOrd S x = false then (th S 1, 0) else if S.1 21 (nn x) 0 = 0 then (th S 2, 0) else (th S 0, S.1 22 (nn x) 0)
def p_pass (S : St) (x : Int32) : St × Int32 := if inB x 1 24 = false then (th S 1, 0) else if 300 < S.1 0 5 0 + x then (th S 2, 0) else hrN (th S 0) 0 (nn x)
def p_hours (S : St) : St × Int32 := (th S 0, S.1 0 5 0)
def p_regrindShare (S : St) : St × UInt32 := if S.1 0 6 0 = 0 then (th S 1, FP.fconst0) else (th S 0, FP.fdiv (FP.l2f (S.2 1 0)) (FP.l2f (S.2 0 0)))
def p_meanParts (S : St) : St × UInt64 := if S.1 0 6 0 = 0 then (th S 1, FP.dconst0) else (th S 0, FP.ddiv (FP.i2d (S.1 0 7 0)) (FP.i2d (S.1 0 6 0)))
