/-! node: both sides -/
def Arg (m : Int) : List Int → Int → Int → (Int → Int) → Prop
  | [], _, _, _ => True
  | c :: cs, i, v, T => (thL c v ≤ T i ∧ T i ≤ thH c m) ∧ Arg m cs (i + 1) (T i) T
theorem nar_t : ∀ k : Nat, k < 8 → nar (k : Int) = (sgK k).length := by decide +kernel
section NO
variable {E : AEn} {h h' : AHi} {hr : AHr} {n : Nat} {Q : ARs → Prop} {t m : Int} {b : Int → Int}
theorem ars_ok (hb : ∀ i, 0 ≤ b i ∧ b i ≤ 255) : ∀ (cs : List Int) (i v p : Int) (T : Int → Int), 0 ≤ p → (ars b t m cs i v p T).1 = -1 → Arg m cs i v (ars b t m cs i v p T).2.2 ∧ ∀ j, j < i → (ars b t m cs i v p T).2.2 j = T j := by
  intro cs
  induction cs with
  | nil => intro i v p T p0 _; exact ⟨trivial, fun j _ => rfl⟩
  | cons c cs ih =>
    intro i v p T p0 q
    unfold ars at q ⊢
    by_cases g : bt b t p = 32
    · rw [if_pos g] at q ⊢
      have tm := thM (t := t) (c := c) (m := m) (v := v) (p := p + 1) hb (by omega)
      by_cases g2 : (thC b t c m v (p + 1) (-1)).2.2 = -1
      · rw [if_pos g2] at q ⊢
        obtain ⟨_, t2, t3, t4⟩ := tm.2 g2
        obtain ⟨a1, a2⟩ := ih (i + 1) _ _ _ (by omega) q
        have ei := a2 i (by omega)
        rw [show upd1 T i (thC b t c m v (p + 1) (-1)).1 i = (thC b t c m v (p + 1) (-1)).1 from if_pos rfl] at ei
        refine ⟨⟨by rw [ei]; exact t2, by rw [ei]; exact a1⟩, fun j jj => ?_⟩
        rw [a2 j (by omega)]
        exact if_neg (by omega)
      · rw [if_neg g2] at q
        exact absurd q g2
    · rw [if_neg g] at q
      have q' : p = -1 := q
      omega
theorem NA_of {k : Nat} {T : Int → Int} (hk : k < 8) (A : Arg m (sgK k) 0 0 T) : NA (k : Int) m T := by
  rcases (show k = 0 ∨ k = 1 ∨ k = 2 ∨ k = 3 ∨ k = 4 ∨ k = 5 ∨ k = 6 ∨ k = 7 by omega) with rfl | rfl | rfl | rfl | rfl | rfl | rfl | rfl
  · have A' : (0 ≤ T 0 ∧ T 0 ≤ 16777215) ∧ True := A
    unfold NA
    omega
  · have A' : (0 ≤ T 0 ∧ T 0 ≤ 3) ∧ (0 ≤ T (0 + 1) ∧ T (0 + 1) ≤ 3) ∧ True := A
    unfold NA
    rw [show (0 : Int) + 1 = 1 by rfl] at A'
    omega
  · have A' : (0 ≤ T 0 ∧ T 0 ≤ m - 1) ∧ (0 ≤ T (0 + 1) ∧ T (0 + 1) ≤ m - 1) ∧ True := A
    unfold NA
    rw [show (0 : Int) + 1 = 1 by rfl] at A'
    omega
  · have A' : (0 ≤ T 0 ∧ T 0 ≤ m - 1) ∧ (-60 ≤ T (0 + 1) ∧ T (0 + 1) ≤ 60) ∧ (-60 ≤ T (0 + 1 + 1) ∧ T (0 + 1 + 1) ≤ 60) ∧ True := A
    unfold NA
    rw [show (0 : Int) + 1 + 1 = 2 by rfl, show (0 : Int) + 1 = 1 by rfl] at A'
    omega
  · have A' : (0 ≤ T 0 ∧ T 0 ≤ m - 1) ∧ (0 ≤ T (0 + 1) ∧ T (0 + 1) ≤ m - 1) ∧ True := A
    unfold NA
    rw [show (0 : Int) + 1 = 1 by rfl] at A'
    omega
  · have A' : (0 ≤ T 0 ∧ T 0 ≤ m - 1) ∧ (0 ≤ T (0 + 1) ∧ T (0 + 1) ≤ m - 1) ∧ (0 ≤ T (0 + 1 + 1) ∧ T (0 + 1 + 1) ≤ 119) ∧ (T (0 + 1 + 1) + 1 ≤ T (0 + 1 + 1 + 1) ∧ T (0 + 1 + 1 + 1) ≤ 119) ∧ True := A
    unfold NA
    rw [show (0 : Int) + 1 + 1 + 1 = 3 by rfl, show (0 : Int) + 1 + 1 = 2 by rfl, show (0 : Int) + 1 = 1 by rfl] at A'
    omega
  · have A' : (0 ≤ T 0 ∧ T 0 ≤ m - 1) ∧ True := A
    unfold NA
    omega
  · have A' : (-99999 ≤ T 0 ∧ T 0 ≤ 99999) ∧ (0 ≤ T (0 + 1) ∧ T (0 + 1) ≤ 47) ∧ (0 ≤ T (0 + 1 + 1) ∧ T (0 + 1 + 1) ≤ 31) ∧ (1 ≤ T (0 + 1 + 1 + 1) ∧ T (0 + 1 + 1 + 1) ≤ 20) ∧ (0 ≤ T (0 + 1 + 1 + 1 + 1) ∧ T (0 + 1 + 1 + 1 + 1) ≤ 16777215) ∧ True := A
    unfold NA
    rw [show (0 : Int) + 1 + 1 + 1 + 1 = 4 by rfl, show (0 : Int) + 1 + 1 + 1 = 3 by rfl, show (0 : Int) + 1 + 1 = 2 by rfl, show (0 : Int) + 1 = 1 by rfl] at A'
    omega
theorem Nk_u {k k' : Nat} {e : Int} (A : Nk b t k e) (B : Nk b t k' e) : k = k' := by
  rcases Nat.lt_trichotomy k k' with g | g | g
  · exact absurd A.2.1 (B.2.2 k g)
  · exact g
  · exact absurd B.2.1 (A.2.2 k' g)
end NO
