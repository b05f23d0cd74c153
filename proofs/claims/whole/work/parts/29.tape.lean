/-! Rows of bytes (the class) -/
/-- a Bytes object o with its row r of length cap -/
def Ob (E : AEn) (hr : AHr) (n o r : Nat) (cap : Int) : Prop := hr o 0 = some r ∧ a_kd o = 1 ∧ 43 ≤ o ∧ o < n ∧ a_kd r = 21 ∧ 43 ≤ r ∧ r < n ∧ (a_ln E r : Int) = cap ∧ 0 < cap ∧ cap ≤ 60000 ∧ o ≠ r
def upd1 (b : Int → Int) (t v : Int) : Int → Int := fun i => if i = t then v else b i
/-- it holds the bytes b 0 .. b (t - 1) -/
def BC (h : AHi) (o r : Nat) (t : Int) (b : Int → Int) : Prop := h o 1 = J t ∧ ∀ i, 0 ≤ i → i < t → gA h r i = a_byte (J (b i))
theorem byte_and {v : Int} (h : 0 ≤ v) (h' : v ≤ 255) : a_byte (J v) &&& J 255 = J v := by
  have key : ∀ k : Nat, k < 256 → a_byte (J k) &&& J 255 = J k := by decide +kernel
  have := key v.toNat (by omega)
  rwa [show ((v.toNat : Nat) : Int) = v by omega] at this
theorem byte_byte (x : Int32) : a_byte (a_byte x) = a_byte x := by unfold a_byte; simp
theorem J_self (x : Int32) : J x.toInt = x := Int32.ofInt_toInt x
theorem and255 (x : Int32) : ∃ v : Int, 0 ≤ v ∧ v ≤ 255 ∧ x &&& J 255 = J v := by
  obtain ⟨j, h1, h2⟩ := pk_andE x (m := J 255) 8 (by decide +kernel)
  refine ⟨j, by omega, by omega, ?_⟩
  rw [h2]
  exact Int32.ofInt_eq_ofNat.symm
theorem byte_mask (x : Int32) : a_byte (x &&& J 255) = a_byte x := by
  unfold a_byte
  refine congrArg Int8.toInt32 ?_
  rw [← Int8.toBitVec_inj]
  rw [Int32.toBitVec_toInt8, Int32.toBitVec_toInt8, Int32.toBitVec_and]
  ext i hi
  simp
  intro _
  exact (show ∀ (i : Nat) (h : i < 8), (255#8)[i] = true by decide +kernel) i hi
theorem byte_ushr (x : Int32) (s : Int32) (k : Nat) (hk : k ≤ 24) (h1 : ((s.toUInt32 &&& Int32.toUInt32 31).toBitVec % 32).toNat = k) (h2 : ((s &&& 31).toBitVec.smod 32).toNat = k) : a_byte (a_ushr x s) = a_byte (x >>> (s &&& 31)) := by
  have e1 : (a_ushr x s).toBitVec = x.toBitVec >>> k := by
    unfold a_ushr
    rw [← h1]
    exact UInt32.toBitVec_shiftRight _ _
  have e2 : (x >>> (s &&& 31)).toBitVec = x.toBitVec.sshiftRight k := by
    show (x.toBitVec.sshiftRight ((s &&& 31).toBitVec.smod 32).toNat) = _
    rw [h2]
  unfold a_byte
  refine congrArg Int8.toInt32 ?_
  rw [← Int8.toBitVec_inj]
  rw [Int32.toBitVec_toInt8, Int32.toBitVec_toInt8, e1, e2]
  ext i hi
  rw [BitVec.getElem_signExtend, BitVec.getElem_signExtend]
  have h3 : i < 32 := by omega
  simp only [h3, dif_pos, BitVec.getElem_ushiftRight, BitVec.getElem_sshiftRight]
  rw [dif_pos (show k + i < 32 by omega)]
  exact BitVec.getLsbD_eq_getElem (by omega)
