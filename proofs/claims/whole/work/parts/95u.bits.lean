/-! match: sets as bits -/
theorem bit_t : ∀ S : Nat, S < 256 → ∀ j : Nat, j < 8 → (J (S : Int) >>> (J (j : Int) &&& 31)) &&& J 1 = (if S.testBit j = true then J 1 else J 0) := by decide +kernel
theorem bor_t : ∀ S : Nat, S < 256 → ∀ j : Nat, j < 8 → J (S : Int) ||| (J 1 <<< (J (j : Int) &&& 31)) = J ((S ||| 1 <<< j : Nat) : Int) ∧ S ||| 1 <<< j < 256 := by decide +kernel
theorem tb_t : ∀ S : Nat, S < 256 → ∀ j : Nat, j < 8 → ∀ i : Nat, i < 8 → (S ||| 1 <<< j).testBit i = (S.testBit i || Nat.beq i j) := by decide +kernel
