/-! The direction words: the document's m, row by row, and aligned. -/
def mTab : List (List Nat) := [[1, 1, 1, 1, 1, 1, 1, 1, 1, 1, 1, 1, 1, 1, 1, 1, 1, 1, 1, 1], [1, 3, 5, 15, 17, 51, 85, 255, 257, 771, 1285, 3855, 4369, 13107, 21845, 65535, 65537, 196611, 327685, 983055], [1, 3, 3, 9, 29, 23, 71, 197, 209, 627, 1907, 1369, 4109, 12327, 12407, 36949, 119041, 94979, 291587, 809225], [1, 3, 1, 5, 31, 29, 81, 147, 433, 149, 719, 3693, 3841, 11523, 16641, 49925, 16671, 83229, 515921, 482707]]
def mT (r j : Nat) : Int32 := nI ((mTab.getD r []).getD j 0)
def dirT (r j : Nat) : Int32 := mT r j <<< ((31 - nI j) &&& 31)
theorem mT_0 : ∀ j, j < 20 → mT 0 j = 1 := by decide +kernel
theorem mT_1 : ∀ j, j < 20 → 1 ≤ j → mT 1 j = mT 1 (j - 1) ^^^ (mT 1 (j - 1) <<< ((1 : Int32) &&& 31)) := by decide +kernel
theorem mT_2 : ∀ j, j < 20 → 2 ≤ j → mT 2 j = mT 2 (j - 2) ^^^ (mT 2 (j - 2) <<< ((2 : Int32) &&& 31)) ^^^ (mT 2 (j - 1) <<< ((1 : Int32) &&& 31)) := by decide +kernel
theorem mT_3 : ∀ j, j < 20 → 3 ≤ j → mT 3 j = mT 3 (j - 3) ^^^ (mT 3 (j - 3) <<< ((3 : Int32) &&& 31)) ^^^ (mT 3 (j - 2) <<< ((2 : Int32) &&& 31)) := by decide +kernel
theorem mT_b : mT 1 0 = 1 ∧ mT 2 0 = 1 ∧ mT 2 1 = 3 ∧ mT 3 0 = 1 ∧ mT 3 1 = 3 ∧ mT 3 2 = 1 := by decide +kernel
/-- the coordinates 0 to 3: the words of the set bits of the Gray number, joined -/
def grC (ix : Int32) : Int32 := ix ^^^ ius ix 1
def joN (r : Nat) (g : Int32) : Nat → Int32
  | 0 => 0
  | j + 1 => if ius g (nI j) &&& 1 = 1 then joN r g j ^^^ dirT r j else joN r g j
/-- the coordinates 4 and 5: the digits turned -/
def tuN (b : Nat) : Nat → Nat × Nat → Nat × Nat
  | 0, t => t
  | n + 1, t => let u := tuN b n t; (u.1 * b + u.2 % b, u.2 / b)
