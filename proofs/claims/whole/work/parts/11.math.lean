/-! THE MATHEMATICS: bits, counts, who knows whom, a spring -/
def bitsOf (f : Nat → Bool) : Nat := (f 0).toNat + 2 * (f 1).toNat + 4 * (f 2).toNat + 8 * (f 3).toNat + 16 * (f 4).toNat + 32 * (f 5).toNat + 64 * (f 6).toNat + 128 * (f 7).toNat
def popc (w : Nat) : Nat := (w.testBit 0).toNat + (w.testBit 1).toNat + (w.testBit 2).toNat + (w.testBit 3).toNat + (w.testBit 4).toNat + (w.testBit 5).toNat + (w.testBit 6).toNat + (w.testBit 7).toNat
def cntB (f : Nat → Bool) : Nat := (f 0).toNat + (f 1).toNat + (f 2).toNat + (f 3).toNat + (f 4).toNat + (f 5).toNat + (f 6).toNat + (f 7).toNat
theorem bits_lt (f : Nat → Bool) : bitsOf f < 256 := by
  unfold bitsOf
  have h0 := Bool.toNat_le (f 0)
  have h1 := Bool.toNat_le (f 1)
  have h2 := Bool.toNat_le (f 2)
  have h3 := Bool.toNat_le (f 3)
  have h4 := Bool.toNat_le (f 4)
  have h5 := Bool.toNat_le (f 5)
  have h6 := Bool.toNat_le (f 6)
  have h7 := Bool.toNat_le (f 7)
  omega
theorem eight {P : Nat → Prop} (h0 : P 0) (h1 : P 1) (h2 : P 2) (h3 : P 3) (h4 : P 4) (h5 : P 5) (h6 : P 6) (h7 : P 7) {i : Nat} (hi : i < 8) : P i := by
  rcases (show i = 0 ∨ i = 1 ∨ i = 2 ∨ i = 3 ∨ i = 4 ∨ i = 5 ∨ i = 6 ∨ i = 7 by omega) with rfl | rfl | rfl | rfl | rfl | rfl | rfl | rfl <;> assumption
theorem bits_key : ∀ b0 b1 b2 b3 b4 b5 b6 b7 : Bool, ((b0.toNat + 2 * b1.toNat + 4 * b2.toNat + 8 * b3.toNat + 16 * b4.toNat + 32 * b5.toNat + 64 * b6.toNat + 128 * b7.toNat).testBit 0 = b0) ∧ ((b0.toNat + 2 * b1.toNat + 4 * b2.toNat + 8 * b3.toNat + 16 * b4.toNat + 32 * b5.toNat + 64 * b6.toNat + 128 * b7.toNat).testBit 1 = b1) ∧ ((b0.toNat + 2 * b1.toNat + 4 * b2.toNat + 8 * b3.toNat + 16 * b4.toNat + 32 * b5.toNat + 64 * b6.toNat + 128 * b7.toNat).testBit 2 = b2) ∧ ((b0.toNat + 2 * b1.toNat + 4 * b2.toNat + 8 * b3.toNat + 16 * b4.toNat + 32 * b5.toNat + 64 * b6.toNat + 128 * b7.toNat).testBit 3 = b3) ∧ ((b0.toNat + 2 * b1.toNat + 4 * b2.toNat + 8 * b3.toNat + 16 * b4.toNat + 32 * b5.toNat + 64 * b6.toNat + 128 * b7.toNat).testBit 4 = b4) ∧ ((b0.toNat + 2 * b1.toNat + 4 * b2.toNat + 8 * b3.toNat + 16 * b4.toNat + 32 * b5.toNat + 64 * b6.toNat + 128 * b7.toNat).testBit 5 = b5) ∧ ((b0.toNat + 2 * b1.toNat + 4 * b2.toNat + 8 * b3.toNat + 16 * b4.toNat + 32 * b5.toNat + 64 * b6.toNat + 128 * b7.toNat).testBit 6 = b6) ∧ ((b0.toNat + 2 * b1.toNat + 4 * b2.toNat + 8 * b3.toNat + 16 * b4.toNat + 32 * b5.toNat + 64 * b6.toNat + 128 * b7.toNat).testBit 7 = b7) := by decide +kernel
theorem bits_test (f : Nat → Bool) {i : Nat} (hi : i < 8) : (bitsOf f).testBit i = f i := by
  obtain ⟨h0, h1, h2, h3, h4, h5, h6, h7⟩ := bits_key (f 0) (f 1) (f 2) (f 3) (f 4) (f 5) (f 6) (f 7)
  exact eight (P := fun i => (bitsOf f).testBit i = f i) h0 h1 h2 h3 h4 h5 h6 h7 hi
theorem popc_bits (f : Nat → Bool) : popc (bitsOf f) = cntB f := by
  unfold popc cntB
  rw [bits_test f (by decide : 0 < 8), bits_test f (by decide : 1 < 8), bits_test f (by decide : 2 < 8), bits_test f (by decide : 3 < 8), bits_test f (by decide : 4 < 8), bits_test f (by decide : 5 < 8), bits_test f (by decide : 6 < 8), bits_test f (by decide : 7 < 8)]
theorem bits_ext {f g : Nat → Bool} (h : ∀ i, i < 8 → f i = g i) : bitsOf f = bitsOf g := by
  unfold bitsOf
  rw [h 0 (by decide), h 1 (by decide), h 2 (by decide), h 3 (by decide), h 4 (by decide), h 5 (by decide), h 6 (by decide), h 7 (by decide)]
theorem cntB_ext {f g : Nat → Bool} (h : ∀ i, i < 8 → f i = g i) : cntB f = cntB g := by
  unfold cntB
  rw [h 0 (by decide), h 1 (by decide), h 2 (by decide), h 3 (by decide), h 4 (by decide), h 5 (by decide), h 6 (by decide), h 7 (by decide)]
theorem bits_of : ∀ w, w < 256 → bitsOf w.testBit = w := by decide +kernel
theorem set_key : ∀ w, w < 256 → ∀ a, a < 8 → w ||| 2 ^ a = bitsOf (fun i => w.testBit i || i == a) := by decide +kernel
theorem clr_key : ∀ w, w < 256 → ∀ a, a < 8 → w &&& (255 - 2 ^ a) = bitsOf (fun i => w.testBit i && !(i == a)) := by decide +kernel
theorem bits_set (f : Nat → Bool) {a : Nat} (ha : a < 8) : bitsOf f ||| 2 ^ a = bitsOf (fun i => f i || i == a) := by
  rw [set_key _ (bits_lt f) a ha]
  exact bits_ext fun i hi => by rw [bits_test f hi]
theorem bits_clr (f : Nat → Bool) {a : Nat} (ha : a < 8) : bitsOf f &&& (255 - 2 ^ a) = bitsOf (fun i => f i && !(i == a)) := by
  rw [clr_key _ (bits_lt f) a ha]
  exact bits_ext fun i hi => by rw [bits_test f hi]
theorem i_get : ∀ w, w < 256 → ∀ a, a < 8 → (nI w >>> (nI a &&& 31)) &&& nI 1 = bI (w.testBit a) := by decide +kernel
theorem i_set : ∀ w, w < 256 → ∀ a, a < 8 → nI w ||| (nI 1 <<< (nI a &&& 31)) = nI (w ||| 2 ^ a) := by decide +kernel
theorem i_clr : ∀ w, w < 256 → ∀ a, a < 8 → nI w &&& ((nI 1 <<< (nI a &&& 31)) ^^^ (-1)) = nI (w &&& (255 - 2 ^ a)) := by decide +kernel
theorem i_bit : ∀ a, a < 8 → nI 1 <<< (nI a &&& 31) = nI (2 ^ a) := by decide +kernel
theorem pow8 {a : Nat} (ha : a < 8) : 2 ^ a < 256 := by
  exact eight (P := fun a => 2 ^ a < 256) (by decide) (by decide) (by decide) (by decide) (by decide) (by decide) (by decide) (by decide) ha
/-- Integer.bitCount -/
def usI (x k : Int32) : Int32 := (x.toUInt32 >>> (k.toUInt32 &&& Int32.toUInt32 31)).toInt32
def bc1 (x : Int32) : Int32 := x - (usI x (nI 1) &&& 1431655765)
def bc2 (x : Int32) : Int32 := (x &&& 858993459) + (usI x (nI 2) &&& 858993459)
def bc3 (x : Int32) : Int32 := (x + usI x (nI 4)) &&& 252645135
def bc4 (x : Int32) : Int32 := x + usI x (nI 8)
def bc5 (x : Int32) : Int32 := x + usI x (nI 16)
def bcE (x : Int32) : Int32 := bc5 (bc4 (bc3 (bc2 (bc1 x)))) &&& nI 63
theorem bcE_ok : ∀ w, w < 256 → bcE (nI w) = nI (popc w) := by decide +kernel
/-! who knows whom; NOW; a town -/
abbrev mK : Type := Nat → Nat → Bool
abbrev mN : Type := mK × (Nat → Int32) × (Nat → Nat) × Nat × Int32
abbrev mT : Type := Nat × mK × (Nat → Option Nat) × Nat × Nat × Nat
def col (K : mK) (b : Nat) : Nat := bitsOf (fun a => K a b)
def row (K : mK) (a : Nat) : Nat := bitsOf (fun b => K a b)
def cnt (K : mK) (b : Nat) : Nat := cntB (fun a => K a b)
def acq (K : mK) (a : Nat) : Nat := cntB (fun b => K a b)
def kSet (K : mK) (a b : Nat) : mK := fun x y => K x y || (x == a && y == b)
def mLearn (ν : mN) (a b : Nat) : mN := (kSet ν.1 a b, upd ν.2.1 (8 * a + b) (nI ν.2.2.2.1), ν.2.2)
/-- the first of those below n that are selected with the least count -/
def lf (c : Nat → Nat) (sel : Nat → Bool) : Nat → Option Nat
  | 0 => none
  | n + 1 => match lf c sel n with
    | none => if sel n then some n else none
    | some b => if sel n && decide (c n < c b) then some n else some b
def ff (p : Nat → Bool) : Nat → Option Nat
  | 0 => none
  | n + 1 => match ff p n with
    | some b => some b
    | none => if p n then some n else none
def mLeast (T : mT) (K : mK) : Nat := (lf (cnt K) (fun _ => true) T.1).getD 0
def mChoose (T : mT) (K : mK) (C : Nat → Nat) : Nat :=
  if T.2.2.2.2.1 = 1 then (lf (cnt K) (fun p => !(p == mLeast T K)) T.1).getD (mLeast T K)
  else if T.2.2.2.2.1 = 2 then (ff (fun p => cnt K p == T.2.2.2.2.2) T.1).getD (mLeast T K)
  else if T.2.2.2.2.1 = 3 then (lf (cnt K) (fun p => C p == 0) T.1).getD (mLeast T K)
  else mLeast T K
def mCalls (T : mT) : Nat → mN → mN
  | 0, ν => ν
  | p + 1, ν => match T.2.2.1 p with
    | none => mCalls T p ν
    | some b => mLearn (mLearn (mCalls T p ν) p b) b p
def mHonour (who : Nat) : Nat → mN → mN
  | 0, ν => ν
  | p + 1, ν => if p = who then mHonour who p ν else mLearn (mHonour who p ν) p who
def mCrown (P who : Nat) (ν : mN) : mN :=
  let μ := mHonour who P ν
  (μ.1, μ.2.1, (fun p => if p = who then μ.2.2.1 p + 1 else μ.2.2.1 p), μ.2.2.2.1, nI who)
def mForget (fo : Nat) (ν : mN) : mN := (fun a b => ν.1 a b && !(decide (nI fo ≤ nI ν.2.2.2.1 - ν.2.1 (8 * a + b))), ν.2)
def mWho (T : mT) (ν : mN) : Nat := mChoose T (mCalls T T.1 ν).1 (mCalls T T.1 ν).2.2.1
def mSpring (T : mT) (ν : mN) : mN :=
  let c := mCrown T.1 (mWho T ν) (mCalls T T.1 ν)
  let f := if 0 < T.2.2.2.1 then mForget T.2.2.2.1 c else c
  (f.1, f.2.1, f.2.2.1, f.2.2.2.1 + 1, f.2.2.2.2)
theorem tb1 {b : Bool} (h : bI b = nI 1) : b = true := (bI_eq1 b).mp h
theorem tbn1 {b : Bool} (h : ¬ bI b = nI 1) : b = false := by cases b; rfl; exact absurd rfl h
theorem tb0 {b : Bool} (h : bI b = 0) : b = false := (bI_eq0 b).mp h
theorem tbn0 {b : Bool} (h : ¬ bI b = 0) : b = true := by cases b; exact absurd rfl h; rfl
