/-! WHAT THE REFERENCE'S METHODS DO TO ITS STATE. Fields: 1 workers, 2 type, 3 length, 4 data, 5 kind, 6 on, 7 c, 8 d, 9 state, 10 failedAt, 11 did, 12 root, 13 round, 14 jobs, 15 of, 16 from, 17 to, 18 parent, 19 child, 20 over, 21 result, 22 base, 23 tasks, 24 queue, 25 queued, 26 done, 27 stolen, 28 idle, 29 victim, 30 grain, 31 steps, 32 turn -/
/-- the queue's places lo .. hi - 1 get what stood one place higher -/
def mShift (S : Ms) (lo hi : Nat) : Ms := (fun k j => if k = 24 then (if lo ≤ j ∧ j < hi then S.1 24 (j + 1) else S.1 24 j) else S.1 k j, S.2)
def mPull (S : Ms) (i k : Nat) : Ms := mShift (sp S 25 i (S.1 25 i - 1)) (600 * i + k) (600 * i + ((S.1 25 i).toNat - 1))
def mNode (S : Ms) (j lo hi ab : Int) : Ms :=
  let t := (S.1 23 0).toNat
  sq (sp (sp (sp (sp (sp (sp (sp S 23 0 (S.1 23 0 + 1)) 15 t j) 16 t lo) 17 t hi) 18 t ab) 19 t (-1)) 20 t 0) 22 t 0
/-- the type of the array of the job j -/
def mTy (S : Ms) (j : Nat) : Int := S.1 2 (S.1 6 j).toNat
def joinF (S : Ms) (j : Nat) (v u : Int64) : Int64 := if S.1 5 j = 1 then (if u < v then v else u) else keptF (mTy S j) (v + u)
def redF (f : Int64 → Int64 → Int64) (g : Nat → Int64) : Nat → Nat → Int64 → Int64
  | _, 0, v => v
  | k, n + 1, v => redF f g (k + 1) n (f v (g k))
/-- the job of a task, its first place, its place behind the last -/
def mOf (S : Ms) (t : Nat) : Nat := (S.1 15 t).toNat
def mLo (S : Ms) (t : Nat) : Nat := (S.1 16 t).toNat
def mHi (S : Ms) (t : Nat) : Nat := (S.1 17 t).toNat
/-- where the array of a job begins -/
def mAt (S : Ms) (j : Nat) : Nat := 24 * (S.1 6 j).toNat
def mReduced (S : Ms) (t : Nat) : Int64 := redF (joinF S (mOf S t)) (fun k => S.2 4 (mAt S (mOf S t) + k)) (mLo S t + 1) (mHi S t - (mLo S t + 1)) (S.2 4 (mAt S (mOf S t) + mLo S t))
def sprF (j a : Nat) : Nat → Nat → Int64 → Ms → Ms
  | _, 0, _, S => S
  | k, n + 1, s, S => sprF j a (k + 1) n (joinF S j s (S.2 4 (a + k))) (sq S 4 (a + k) (joinF S j s (S.2 4 (a + k))))
def mSpread (S : Ms) (t : Nat) : Ms := sprF (mOf S t) (mAt S (mOf S t)) (mLo S t) (mHi S t - mLo S t) (S.2 22 t) S
/-- two neighbours change places -/
def mSwap (S : Ms) (k : Nat) : Ms := sq (sq S 4 (k + 1) (S.2 4 k)) 4 k (S.2 4 (k + 1))
def insF (lo : Nat) : Nat → Ms → Ms
  | 0, S => S
  | k + 1, S => if lo < k + 1 ∧ S.2 4 (k + 1) < S.2 4 k then insF lo k (mSwap S k) else S
def ordF (lo : Nat) : Nat → Nat → Ms → Ms
  | _, 0, S => S
  | i, n + 1, S => ordF lo (i + 1) n (insF lo i S)
def mOrder (S : Ms) (a lo hi : Nat) : Ms := ordF (a + lo) (a + lo + 1) (hi - (lo + 1)) S
def mapF (S : Ms) (j : Nat) (v : Int64) : Int64 := keptF (mTy S j) ((Int32.ofInt (S.1 7 j)).toInt64 * v + (if mTy S j < 4 then (Int32.ofInt (S.1 8 j)).toInt64 else 8 * (Int32.ofInt (S.1 8 j)).toInt64))
def downF (a b : Int64) : Int64 := a / b - (if ¬ a - a / b * b = 0 ∧ ¬ ((a < 0) ↔ (b < 0)) then 1 else 0)
def shaF (S : Ms) (j : Nat) (v : Int64) : Int64 := keptF (mTy S j) (if mTy S j < 4 then (Int32.ofInt (S.1 7 j)).toInt64 / v else downF (64 * (Int32.ofInt (S.1 7 j)).toInt64) v)
/-- the tasks of the job j leave the queue i -/
def endW (i : Nat) (j : Int) : Nat → Nat → Ms → Ms
  | 0, _, S => S
  | n + 1, k, S => if S.1 15 (S.1 24 (600 * i + k)).toNat = j then endW i j n k (mPull S i k) else endW i j n (k + 1) S
def endA (j : Int) : Nat → Nat → Ms → Ms
  | 0, _, S => S
  | n + 1, i, S => endA j n (i + 1) (endW i j (S.1 25 i).toNat 0 S)
def mEnd (S : Ms) (j : Nat) (x : Int) : Ms := endA j (S.1 1 0).toNat 0 (sp (sp S 9 j 2) 10 j x)
/-- MAP and SHARE: the elements from k on, n of them; SHARE ends at a 0 -/
def lfF (j a : Nat) : Nat → Nat → Ms → Bool × Ms
  | _, 0, S => (true, S)
  | k, n + 1, S => if S.1 5 j = 5 ∧ S.2 4 (a + k) = 0 then (false, mEnd S j k) else lfF j a (k + 1) n (sq S 4 (a + k) (if S.1 5 j = 4 then mapF S j (S.2 4 (a + k)) else shaF S j (S.2 4 (a + k))))
def mLeaf (S : Ms) (t : Nat) : Bool × Ms :=
  let j := mOf S t
  if S.1 5 j < 2 ∨ (S.1 5 j = 2 ∧ S.1 13 j = 1) then (true, sq S 21 t (mReduced S t))
  else if S.1 5 j = 2 then (true, mSpread S t)
  else if S.1 5 j = 3 then (true, mOrder S (mAt S j) (mLo S t) (mHi S t))
  else lfF j (mAt S j) (mLo S t) (mHi S t - mLo S t) S
def finE (S : Ms) (i j k : Nat) : Ms := if ¬ S.1 5 j = 2 ∨ S.1 13 j = 2 then sp S 9 j 1 else mPut (sq (sp S 13 j 2) 22 k 0) i k
def finJ (S : Ms) (j p : Nat) : Ms :=
  let S2 := if S.1 13 j = 1 ∧ S.1 5 j < 3 then sq S 21 p (joinF S j (S.2 21 (S.1 19 p).toNat) (S.2 21 ((S.1 19 p).toNat + 1))) else S
  if S.1 5 j = 3 then mOrder S2 (mAt S j) (mLo S p) (mHi S p) else S2
def finF (i j : Nat) : Nat → Nat → Ms → Ms
  | 0, _, S => S
  | n + 1, k, S => if S.1 18 k < 0 then finE S i j k else
    let p := (S.1 18 k).toNat
    if S.1 20 p + 1 < 2 then sp S 20 p (S.1 20 p + 1) else finF i j n p (finJ (sp S 20 p (S.1 20 p + 1)) j p)
def mFinished (S : Ms) (t i : Nat) : Ms := finF i (mOf S t) (t + 1) t S
def mMid (S : Ms) (t : Nat) : Int := (S.1 16 t + S.1 17 t) / 2
def mFork1 (S : Ms) (t : Nat) : Ms :=
  if S.1 13 (mOf S t) = 1 then mNode (sp (mNode S (S.1 15 t) (S.1 16 t) (mMid S t) t) 19 t (S.1 23 0)) (S.1 15 t) (mMid S t) (S.1 17 t) t
  else sq (sq S 22 (S.1 19 t).toNat (S.2 22 t)) 22 ((S.1 19 t).toNat + 1) (joinF S (mOf S t) (S.2 22 t) (S.2 21 (S.1 19 t).toNat))
def mFork (S : Ms) (t i : Nat) : Ms :=
  let S1 := sp (mFork1 S t) 20 t 0
  mPut (mPut S1 i (S1.1 19 t + 1)) i (S1.1 19 t)
def mForks (S : Ms) (t : Nat) : Prop := if S.1 13 (mOf S t) = 1 then S.1 30 0 < S.1 17 t - S.1 16 t else 0 ≤ S.1 19 t
noncomputable def mPerform (S : Ms) (t i : Nat) : Ms :=
  let S1 := sp (sp S 11 (mOf S t) (S.1 11 (mOf S t) + 1)) 26 i (S.1 26 i + 1)
  @ite _ (mForks S t) (Classical.propDecidable _) (mFork S1 t i) (if (mLeaf S1 t).1 then mFinished (mLeaf S1 t).2 t i else (mLeaf S1 t).2)
/-- the first worker with a task, from the victim v of the worker i on: how far -/
def vicF (S : Ms) (v W : Nat) : Nat → Nat → Option Nat
  | 0, _ => none
  | n + 1, k => if S.1 25 ((v + k) % W) = 0 then vicF S v W n (k + 1) else some ((v + k) % W)
/-- a step: not idle?, and the state behind it -/
noncomputable def mTurns (S : Ms) : Bool × Ms :=
  let W := (S.1 1 0).toNat
  let i := (S.1 32 0).toNat
  let S1 := sp (sp S 32 0 ((S.1 32 0 + 1) % S.1 1 0)) 31 0 (S.1 31 0 + 1)
  if 0 < S.1 25 i then
    let k := (S.1 25 i).toNat - 1
    (true, mPerform (mPull S1 i k) (S.1 24 (600 * i + k)).toNat i)
  else match vicF S1 (S.1 29 i).toNat W W 1 with
    | some v => (true, mPerform (mPull (sp (sp S1 29 i v) 27 i (S.1 27 i + 1)) v 0) (S.1 24 (600 * v)).toNat i)
    | none => (false, sp S1 28 i (S.1 28 i + 1))
