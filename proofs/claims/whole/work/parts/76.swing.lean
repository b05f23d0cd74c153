/-! swing -/
/-- where the spring is, and how fast, after k frames -/
def spr (T : Int → Int) (s d : Int) : Nat → Int × Int
  | 0 => (256 * T 0, 0)
  | k + 1 => ((spr T s d k).1 + ((spr T s d k).2 + ((256 * T (k + 1) - (spr T s d k).1) * s) / 16 - ((spr T s d k).2 * d) / 16), (spr T s d k).2 + ((256 * T (k + 1) - (spr T s d k).1) * s) / 16 - ((spr T s d k).2 * d) / 16)
def ab (x : Int) : Int := if 0 ≤ x then x else -x
def dl (s d : Int) : Nat → Int → Int → Int → Int × Int × Int
  | 0, r1, r2, g => (r1, r2, g)
  | j + 1, r1, r2, g => dl s d j ((16 - s) * r1 - s * r2) ((16 - d) * (r1 + r2)) (16 * g + ab (r1 + r2))
theorem ab_m {a b A : Int} (hb : -A ≤ b ∧ b ≤ A) : -(ab a * A) ≤ a * b ∧ a * b ≤ ab a * A := by
  unfold ab
  have hA : 0 ≤ A := by omega
  split
  · rename_i h
    have h1 := Int.mul_le_mul_of_nonneg_left hb.1 h
    have h2 := Int.mul_le_mul_of_nonneg_left hb.2 h
    rw [Int.mul_neg] at h1
    exact ⟨h1, h2⟩
  · rename_i h
    have h0 : 0 ≤ -a := by omega
    have h1 := Int.mul_le_mul_of_nonneg_left hb.1 h0
    have h2 := Int.mul_le_mul_of_nonneg_left hb.2 h0
    rw [Int.mul_neg] at h1
    have e1 : -a * b = -(a * b) := Int.neg_mul a b
    rw [e1] at h1 h2
    omega
theorem spr_i {r1 r2 S P V V' s d t e1 e2 : Int} (hV : 16 * V' = 16 * V + (256 * t - P) * s - e1 - V * d + e2) : 16 * (r1 * (P + V') + r2 * V' + S) = ((16 - s) * r1 - s * r2) * P + ((16 - d) * (r1 + r2)) * V + (16 * S + (r1 + r2) * (256 * t * s - e1 + e2)) := by
  have h1 : 16 * (r1 * (P + V') + r2 * V' + S) = 16 * r1 * P + (r1 + r2) * (16 * V') + 16 * S := by grind
  rw [h1, hV]
  grind
theorem spr_d {T : Int → Int} {s d : Int} (hT : ∀ k, 0 ≤ T k ∧ T k ≤ 31) (hs : 0 ≤ s ∧ s ≤ 16) (hd : 0 ≤ d ∧ d ≤ 16) : ∀ (m : Nat) (r1 r2 g c X S : Int), c * X = r1 * (spr T s d m).1 + r2 * (spr T s d m).2 + S → -(g * 127000) ≤ S → S ≤ g * 127000 → -(ab (dl s d m r1 r2 g).1 * 7936 + (dl s d m r1 r2 g).2.2 * 127000) ≤ 16 ^ m * (c * X) ∧ 16 ^ m * (c * X) ≤ ab (dl s d m r1 r2 g).1 * 7936 + (dl s d m r1 r2 g).2.2 * 127000 := by
  intro m
  induction m with
  | zero =>
    intro r1 r2 g c X S h h1 h2
    have p0 : (spr T s d 0).1 = 256 * T 0 := rfl
    have v0 : (spr T s d 0).2 = 0 := rfl
    rw [v0, Int.mul_zero, Int.add_zero] at h
    have t := hT 0
    have a := ab_m (a := r1) (b := (spr T s d 0).1) (A := 7936) (by rw [p0]; omega)
    show -(ab r1 * 7936 + g * 127000) ≤ 16 ^ 0 * (c * X) ∧ 16 ^ 0 * (c * X) ≤ ab r1 * 7936 + g * 127000
    rw [Int.pow_zero, Int.one_mul, h]
    omega
  | succ m ih =>
    intro r1 r2 g c X S h h1 h2
    have t := hT (m + 1)
    have ev : (spr T s d (m + 1)).2 = (spr T s d m).2 + ((256 * T (m + 1) - (spr T s d m).1) * s) / 16 - ((spr T s d m).2 * d) / 16 := rfl
    have ep : (spr T s d (m + 1)).1 = (spr T s d m).1 + (spr T s d (m + 1)).2 := rfl
    have ey : ∃ e1 e2 : Int, (0 ≤ e1 ∧ e1 ≤ 15) ∧ (0 ≤ e2 ∧ e2 ≤ 15) ∧ 16 * (spr T s d (m + 1)).2 = 16 * (spr T s d m).2 + (256 * T (m + 1) - (spr T s d m).1) * s - e1 - (spr T s d m).2 * d + e2 := by
      refine ⟨((256 * T (m + 1) - (spr T s d m).1) * s) % 16, ((spr T s d m).2 * d) % 16, by omega, by omega, ?_⟩
      rw [ev]
      omega
    obtain ⟨e1, e2, q1, q2, q3⟩ := ey
    have id := spr_i (r1 := r1) (r2 := r2) (S := S) q3
    rw [ep] at h
    have h3 : 16 * c * X = ((16 - s) * r1 - s * r2) * (spr T s d m).1 + ((16 - d) * (r1 + r2)) * (spr T s d m).2 + (16 * S + (r1 + r2) * (256 * T (m + 1) * s - e1 + e2)) := by
      rw [Int.mul_assoc, h, id]
    have tm := mulb (a := 256 * T (m + 1)) (b := s) (A := 7936) (B := 16) (by omega) (by omega)
    have a := ab_m (a := r1 + r2) (b := 256 * T (m + 1) * s - e1 + e2) (A := 127000) (by omega)
    have gm : (16 * g + ab (r1 + r2)) * 127000 = 16 * (g * 127000) + ab (r1 + r2) * 127000 := by rw [Int.add_mul, Int.mul_assoc]
    have := ih ((16 - s) * r1 - s * r2) ((16 - d) * (r1 + r2)) (16 * g + ab (r1 + r2)) (16 * c) X _ h3 (by rw [gm]; omega) (by rw [gm]; omega)
    rw [Int.pow_succ, Int.mul_assoc, ← Int.mul_assoc 16 c X]
    exact this
theorem dl_s (s d : Int) : ∀ (m : Nat) (r1 r2 g : Int), dl s d (m + 1) r1 r2 g = ((16 - s) * (dl s d m r1 r2 g).1 - s * (dl s d m r1 r2 g).2.1, (16 - d) * ((dl s d m r1 r2 g).1 + (dl s d m r1 r2 g).2.1), 16 * (dl s d m r1 r2 g).2.2 + ab ((dl s d m r1 r2 g).1 + (dl s d m r1 r2 g).2.1)) := by
  intro m
  induction m with
  | zero => intro r1 r2 g; rfl
  | succ m ih => intro r1 r2 g; exact ih _ _ _
theorem ab_r (x : Int) : 0 ≤ ab x ∧ -ab x ≤ x ∧ x ≤ ab x := by
  unfold ab
  split <;> omega
theorem quad {s d x y P : Int} (hs : 0 ≤ s ∧ s ≤ 16) (hd : 0 ≤ d ∧ d ≤ 16) (hP : 0 < P) (h : x * x - (32 - s - d) * (x * y) + 16 * (16 - d) * (y * y) ≤ P * P) : ab x ≤ 16 * ab y + P := by
  by_cases g : ab x ≤ 16 * ab y + P
  · exact g
  · exfalso
    have rx := ab_r x
    have ry := ab_r y
    have ex : x * x = ab x * ab x := by
      unfold ab
      split
      · rfl
      · rw [Int.neg_mul_neg]
    have ey : y * y = ab y * ab y := by
      unfold ab
      split
      · rfl
      · rw [Int.neg_mul_neg]
    have exy : x * y ≤ ab x * ab y := (ab_m (a := x) (b := y) (A := ab y) ry.2).2
    have e1 : (32 - s - d) * (x * y) ≤ (32 - s - d) * (ab x * ab y) := Int.mul_le_mul_of_nonneg_left exy (by omega)
    obtain ⟨u, hu⟩ : ∃ u, ab x = 16 * ab y + u := ⟨ab x - 16 * ab y, by omega⟩
    rw [ex, ey] at h
    rw [hu] at h e1
    generalize ab y = w at *
    have id : (16 * w + u) * (16 * w + u) - (32 - s - d) * ((16 * w + u) * w) + 16 * (16 - d) * (w * w) = u * u + d * (u * w) + s * ((16 * w + u) * w) := by grind
    have n1 : 0 ≤ d * (u * w) := Int.mul_nonneg hd.1 (Int.mul_nonneg (by omega) ry.1)
    have n2 : 0 ≤ s * ((16 * w + u) * w) := Int.mul_nonneg hs.1 (Int.mul_nonneg (by omega) ry.1)
    have n3 : (P + 1) * (P + 1) ≤ u * u := Int.mul_le_mul (by omega) (by omega) (by omega) (by omega)
    have n4 : (P + 1) * (P + 1) = P * P + 2 * P + 1 := by grind
    omega
theorem dl_b {s d r1 r2 : Int} (hs : 0 ≤ s ∧ s ≤ 16) (hd : 0 ≤ d ∧ d ≤ 16) (h1 : ab r1 ≤ 1) (h0 : ab (r1 + r2) ≤ 1) (hI : ((16 - s) * r1 - s * r2 + (16 - d) * (r1 + r2)) * ((16 - s) * r1 - s * r2 + (16 - d) * (r1 + r2)) - (32 - s - d) * (((16 - s) * r1 - s * r2 + (16 - d) * (r1 + r2)) * (r1 + r2)) + 16 * (16 - d) * ((r1 + r2) * (r1 + r2)) ≤ 256) : ∀ m : Nat, (ab ((dl s d m r1 r2 0).1 + (dl s d m r1 r2 0).2.1) ≤ (m + 1) * 16 ^ m ∧ ((dl s d (m + 1) r1 r2 0).1 + (dl s d (m + 1) r1 r2 0).2.1) * ((dl s d (m + 1) r1 r2 0).1 + (dl s d (m + 1) r1 r2 0).2.1) - (32 - s - d) * (((dl s d (m + 1) r1 r2 0).1 + (dl s d (m + 1) r1 r2 0).2.1) * ((dl s d m r1 r2 0).1 + (dl s d m r1 r2 0).2.1)) + 16 * (16 - d) * (((dl s d m r1 r2 0).1 + (dl s d m r1 r2 0).2.1) * ((dl s d m r1 r2 0).1 + (dl s d m r1 r2 0).2.1)) ≤ 16 ^ (m + 1) * 16 ^ (m + 1)) ∧ 32 * (dl s d m r1 r2 0).2.2 ≤ m * (m + 1) * 16 ^ m ∧ ab (dl s d m r1 r2 0).1 ≤ (2 * m + 1) * 16 ^ m := by
  intro m
  induction m with
  | zero =>
    refine ⟨⟨?_, hI⟩, ?_, ?_⟩
    · show ab (r1 + r2) ≤ (((0 : Nat) : Int) + 1) * 16 ^ 0
      rw [Int.pow_zero]
      omega
    · show 32 * (0 : Int) ≤ ((0 : Nat) : Int) * (((0 : Nat) : Int) + 1) * 16 ^ 0
      rw [Int.pow_zero]
      decide
    · show ab r1 ≤ (2 * ((0 : Nat) : Int) + 1) * 16 ^ 0
      rw [Int.pow_zero]
      omega
  | succ m ih =>
    obtain ⟨⟨a1, a2⟩, a3, a4⟩ := ih
    have s1 := dl_s s d m r1 r2 0
    have s2 := dl_s s d (m + 1) r1 r2 0
    have e21 : (dl s d (m + 1) r1 r2 0).2.1 = (16 - d) * ((dl s d m r1 r2 0).1 + (dl s d m r1 r2 0).2.1) := by rw [s1]
    have e22 : (dl s d (m + 1) r1 r2 0).2.2 = 16 * (dl s d m r1 r2 0).2.2 + ab ((dl s d m r1 r2 0).1 + (dl s d m r1 r2 0).2.1) := by rw [s1]
    have f1 : (dl s d (m + 1 + 1) r1 r2 0).1 = (16 - s) * (dl s d (m + 1) r1 r2 0).1 - s * (dl s d (m + 1) r1 r2 0).2.1 := by rw [s2]
    have f2 : (dl s d (m + 1 + 1) r1 r2 0).2.1 = (16 - d) * ((dl s d (m + 1) r1 r2 0).1 + (dl s d (m + 1) r1 r2 0).2.1) := by rw [s2]
    have pp : (0 : Int) < 16 ^ m := Int.pow_pos (by decide)
    have ps : (16 : Int) ^ (m + 1) = 16 * 16 ^ m := by rw [Int.pow_succ, Int.mul_comm]
    have ps2 : (16 : Int) ^ (m + 1 + 1) = 256 * 16 ^ m := by rw [Int.pow_succ, ps]; omega
    have qd := quad hs hd (show (0 : Int) < 16 ^ (m + 1) by omega) a2
    have cm : ((m + 1 : Nat) : Int) = m + 1 := by omega
    rw [cm]
    have b1 : ab ((dl s d (m + 1) r1 r2 0).1 + (dl s d (m + 1) r1 r2 0).2.1) ≤ ((m : Int) + 1 + 1) * 16 ^ (m + 1) := by
      have : ((m : Int) + 1 + 1) * (16 * 16 ^ m) = 16 * (((m : Int) + 1) * 16 ^ m) + 16 * 16 ^ m := by grind
      rw [ps, this]
      omega
    refine ⟨⟨b1, ?_⟩, ?_, ?_⟩
    · rw [f1, f2, ps2]
      have k1 : (dl s d (m + 1) r1 r2 0).1 = ((dl s d (m + 1) r1 r2 0).1 + (dl s d (m + 1) r1 r2 0).2.1) - (16 - d) * ((dl s d m r1 r2 0).1 + (dl s d m r1 r2 0).2.1) := by omega
      rw [ps] at a2
      generalize hq1 : (dl s d (m + 1) r1 r2 0).1 + (dl s d (m + 1) r1 r2 0).2.1 = q1 at *
      generalize (dl s d m r1 r2 0).1 + (dl s d m r1 r2 0).2.1 = q0 at *
      rw [k1, e21]
      generalize (16 : Int) ^ m = p at *
      have id : ((16 - s) * (q1 - (16 - d) * q0) - s * ((16 - d) * q0) + (16 - d) * q1) * ((16 - s) * (q1 - (16 - d) * q0) - s * ((16 - d) * q0) + (16 - d) * q1) - (32 - s - d) * (((16 - s) * (q1 - (16 - d) * q0) - s * ((16 - d) * q0) + (16 - d) * q1) * q1) + 16 * (16 - d) * (q1 * q1) = 16 * (16 - d) * (q1 * q1 - (32 - s - d) * (q1 * q0) + 16 * (16 - d) * (q0 * q0)) := by grind
      rw [id]
      have c0 : 0 ≤ 16 * (16 - d) := by omega
      have m1 := Int.mul_le_mul_of_nonneg_left a2 c0
      have m2 : 16 * (16 - d) * (16 * p * (16 * p)) ≤ 256 * (16 * p * (16 * p)) := Int.mul_le_mul_of_nonneg_right (by omega) (Int.mul_nonneg (by omega) (by omega))
      have m3 : 256 * (16 * p * (16 * p)) = 256 * p * (256 * p) := by grind
      omega
    · rw [e22, ps]
      have : ((m : Int) + 1) * ((m : Int) + 1 + 1) * (16 * 16 ^ m) = 16 * ((m : Int) * (m + 1) * 16 ^ m) + 32 * (((m : Int) + 1) * 16 ^ m) := by grind
      rw [this]
      omega
    · have k1 : (dl s d (m + 1) r1 r2 0).1 = ((dl s d (m + 1) r1 r2 0).1 + (dl s d (m + 1) r1 r2 0).2.1) - (16 - d) * ((dl s d m r1 r2 0).1 + (dl s d m r1 r2 0).2.1) := by omega
      have m1 : (16 - d) * ((dl s d m r1 r2 0).1 + (dl s d m r1 r2 0).2.1) ≤ 16 * (((m : Int) + 1) * 16 ^ m) ∧ -(16 * (((m : Int) + 1) * 16 ^ m)) ≤ (16 - d) * ((dl s d m r1 r2 0).1 + (dl s d m r1 r2 0).2.1) := by
        have r := ab_r ((dl s d m r1 r2 0).1 + (dl s d m r1 r2 0).2.1)
        have := mulb (a := 16 - d) (b := (dl s d m r1 r2 0).1 + (dl s d m r1 r2 0).2.1) (A := 16) (B := ((m : Int) + 1) * 16 ^ m) (by omega) (by omega)
        omega
      have e3 : (2 * ((m : Int) + 1) + 1) * 16 ^ (m + 1) = ((m : Int) + 1 + 1) * 16 ^ (m + 1) + 16 * (((m : Int) + 1) * 16 ^ m) := by rw [ps]; grind
      have r := ab_r ((dl s d (m + 1) r1 r2 0).1 + (dl s d (m + 1) r1 r2 0).2.1)
      rw [e3, k1]
      generalize (dl s d (m + 1) r1 r2 0).1 + (dl s d (m + 1) r1 r2 0).2.1 = q1 at *
      generalize (16 - d) * ((dl s d m r1 r2 0).1 + (dl s d m r1 r2 0).2.1) = q0 at *
      generalize ((m : Int) + 1 + 1) * 16 ^ (m + 1) = z1 at *
      unfold ab
      split <;> omega
theorem spr_r {T : Int → Int} {s d : Int} (hT : ∀ k, 0 ≤ T k ∧ T k ≤ 31) (hs : 0 ≤ s ∧ s ≤ 16) (hd : 0 ≤ d ∧ d ≤ 16) {m : Nat} (hm : m < 120) : (-60000000 ≤ (spr T s d m).1 ∧ (spr T s d m).1 ≤ 60000000) ∧ -60000000 ≤ (spr T s d m).2 ∧ (spr T s d m).2 ≤ 60000000 := by
  have pp : (0 : Int) < 16 ^ m := Int.pow_pos (by decide)
  have bd : ∀ x : Int × Int × Int, 32 * x.2.2 ≤ (m : Int) * (m + 1) * 16 ^ m → ab x.1 ≤ (2 * (m : Int) + 1) * 16 ^ m → ab x.1 * 7936 + x.2.2 * 127000 ≤ 60000000 * 16 ^ m := fun x h1 h2 => by
    have q1 : (m : Int) * (m + 1) ≤ 119 * 120 := Int.mul_le_mul (by omega) (by omega) (by omega) (by omega)
    have q2 : (m : Int) * (m + 1) * 16 ^ m ≤ 119 * 120 * 16 ^ m := Int.mul_le_mul_of_nonneg_right q1 (by omega)
    have q3 : (2 * (m : Int) + 1) * 16 ^ m ≤ 239 * 16 ^ m := Int.mul_le_mul_of_nonneg_right (by omega) (by omega)
    omega
  have i1 : ((16 - s) * 1 - s * 0 + (16 - d) * (1 + 0)) * ((16 - s) * 1 - s * 0 + (16 - d) * (1 + 0)) - (32 - s - d) * (((16 - s) * 1 - s * 0 + (16 - d) * (1 + 0)) * (1 + 0)) + 16 * (16 - d) * ((1 + 0) * (1 + 0)) ≤ 256 := by
    have : ((16 - s) * 1 - s * 0 + (16 - d) * (1 + 0)) * ((16 - s) * 1 - s * 0 + (16 - d) * (1 + 0)) - (32 - s - d) * (((16 - s) * 1 - s * 0 + (16 - d) * (1 + 0)) * (1 + 0)) + 16 * (16 - d) * ((1 + 0) * (1 + 0)) = 16 * (16 - d) := by grind
    rw [this]
    omega
  have i2 : ((16 - s) * 0 - s * 1 + (16 - d) * (0 + 1)) * ((16 - s) * 0 - s * 1 + (16 - d) * (0 + 1)) - (32 - s - d) * (((16 - s) * 0 - s * 1 + (16 - d) * (0 + 1)) * (0 + 1)) + 16 * (16 - d) * ((0 + 1) * (0 + 1)) ≤ 256 := by
    have : ((16 - s) * 0 - s * 1 + (16 - d) * (0 + 1)) * ((16 - s) * 0 - s * 1 + (16 - d) * (0 + 1)) - (32 - s - d) * (((16 - s) * 0 - s * 1 + (16 - d) * (0 + 1)) * (0 + 1)) + 16 * (16 - d) * ((0 + 1) * (0 + 1)) = 16 * s := by grind
    rw [this]
    omega
  have d1 := (dl_b (r1 := 1) (r2 := 0) hs hd (by decide) (by decide) i1 m).2
  have d2 := (dl_b (r1 := 0) (r2 := 1) hs hd (by decide) (by decide) i2 m).2
  have a1 := bd _ d1.1 d1.2
  have a2 := bd _ d2.1 d2.2
  have b1 := spr_d hT hs hd m 1 0 0 1 (spr T s d m).1 0 (by omega) (by omega) (by omega)
  have b2 := spr_d hT hs hd m 0 1 0 1 (spr T s d m).2 0 (by omega) (by omega) (by omega)
  rw [Int.one_mul] at b1 b2
  have fin : ∀ X B : Int, -B ≤ 16 ^ m * X → 16 ^ m * X ≤ B → B ≤ 60000000 * 16 ^ m → -60000000 ≤ X ∧ X ≤ 60000000 := fun X B h1 h2 h3 => by
    constructor
    · have h4 : 16 ^ m * (-60000000) ≤ 16 ^ m * X := by
        have : (16 : Int) ^ m * (-60000000) = -(60000000 * 16 ^ m) := by rw [Int.mul_neg, Int.mul_comm]
        omega
      exact Int.le_of_mul_le_mul_left h4 pp
    · have h4 : 16 ^ m * X ≤ 16 ^ m * 60000000 := by
        have : (16 : Int) ^ m * 60000000 = 60000000 * 16 ^ m := Int.mul_comm _ _
        omega
      exact Int.le_of_mul_le_mul_left h4 pp
  exact ⟨fin _ _ b1.1 b1.2 a1, fin _ _ b2.1 b2.2 a2⟩
theorem spr_s (T : Int → Int) (s d : Int) {k : Int} (h : 1 ≤ k) : (spr T s d k.toNat).2 = (spr T s d (k - 1).toNat).2 + ((256 * T k - (spr T s d (k - 1).toNat).1) * s) / 16 - ((spr T s d (k - 1).toNat).2 * d) / 16 ∧ (spr T s d k.toNat).1 = (spr T s d (k - 1).toNat).1 + (spr T s d k.toNat).2 := by
  obtain ⟨q, hq⟩ : ∃ q : Nat, k = q + 1 := ⟨(k - 1).toNat, by omega⟩
  subst hq
  rw [show ((q : Int) + 1).toNat = q + 1 by omega, show ((q : Int) + 1 - 1).toNat = q by omega]
  exact ⟨rfl, rfl⟩
section SG
variable {E : AEn} {h h' : AHi} {hr : AHr} {n : Nat} {Q : ARs → Prop} {N : Int} {b : Int → Bn}
theorem w7 (F : FH hr) (hn : 775 ≤ n) (C : Bw N b h hr) {a f s d : Int} (a0 : 0 ≤ a) (a1 : a < N) (hf : 0 ≤ f ∧ f ≤ 119) (hs : 0 ≤ s ∧ s ≤ 16) (hd : 0 ≤ d ∧ d ≤ 16) (k : Q (some (.int (J (spr (fun k => an b k a) s d f.toNat).1)), h, hr, n)) : Sp E 7 [.ref (bid a), .int (J f), .int (J s), .int (J d)] h hr n Q := by
  have V := C.v F (i := a) (by omega) a1
  have S := fun (k : Int) (hk : 0 ≤ k ∧ k ≤ 119) Q => s2 (E := E) (Q := Q) F hn V hk
  change ∀ (k : Int), 0 ≤ k ∧ k ≤ 119 → ∀ Q, Sp E 2 [.ref (bid a), .int (J k)] h hr n Q ↔ Q (some (.int (J (an b k a))), h, hr, n) at S
  have x2 := V.1.x E F
  have x3 := V.1.r
  have R := C.2.1
  have hT : ∀ k, 0 ≤ an b k a ∧ an b k a ≤ 31 := fun k => an_r R k (by omega) a1
  have lt0 : bid a < n := by omega
  have S0 := S 0 (by omega)
  have t0 := hT 0
  simp +decide (maxSteps := 4000000) (disch := omega) only [k7_0, k7_2, k7_r, k7_s, T_I, F_al0, F_an0, T_mul, F_is4i, F_is4r, F_is4m, F_is5i, F_is5r, F_is5m, F_is6i, F_is6r, F_is6m, T_ft, F_il6, F_il1, T_icgt, F_il4, T_sub, F_il2, F_is7i, F_is7r, F_is7m, F_il5, F_il7, T_add, F_il3, F_inc6i, F_inc6r, F_inc6m, T_goto, T_ret, c2, c350, ↓s350, S0, x2, lt0, ↓reduceIte, TK, lt_run hn, le43, Int.le_refl, Int.lt_irrefl, Option.some.injEq, exists_eq_left', true_and, and_true, if_true, if_false, decide_eq_false_iff_not, decide_eq_true_eq, Nat.reduceAdd, Nat.reduceLeDiff, Nat.reduceLT, Int.reduceAdd, Int.reduceSub, Int.reduceMul, Int.reduceNeg, not_true_eq_false, not_false_eq_true]
  refine T_for (σ := Int × Int × Value) (fun k v => [.ref (bid a), .int (J f), .int (J s), .int (J d), .int (J v.1), .int (J v.2.1), .int (J k), v.2.2]) (fun k v h' => h' = h ∧ v.1 = (spr (fun k => an b k a) s d (k - 1).toNat).1 ∧ v.2.1 = (spr (fun k => an b k a) s d (k - 1).toNat).2) 1 (f + 1) ?_ ?_ 1 (256 * an b 0 a, 0, a_mk) h (by omega) (by omega) ⟨rfl, rfl, rfl⟩
  · rintro q ⟨p, v, v7⟩ h' q0 q1 ⟨rfl, y1, y2⟩ ih
    dsimp only at y1 y2 ⊢
    have Sk := S q (by omega)
    have tk := hT q
    have sr := spr_r hT hs hd (m := (q - 1).toNat) (by omega)
    rw [← y1, ← y2] at sr
    have ss := spr_s (fun k => an b k a) s d (k := q) q0
    rw [← y1, ← y2] at ss
    have m1 := mulb (a := 256 * an b q a - p) (b := s) (A := 60008000) (B := 16) (by omega) (by omega)
    have m2 := mulb (a := v) (b := d) (A := 60000000) (B := 16) (by omega) (by omega)
    rw [k7_1]
    simp +decide (maxSteps := 4000000) (disch := omega) only [k7_0, k7_2, k7_r, k7_s, T_I, F_al0, F_an0, T_mul, F_is4i, F_is4r, F_is4m, F_is5i, F_is5r, F_is5m, F_is6i, F_is6r, F_is6m, T_ft, F_il6, F_il1, T_icgt, F_il4, T_sub, F_il2, F_is7i, F_is7r, F_is7m, F_il5, F_il7, T_add, F_il3, F_inc6i, F_inc6r, F_inc6m, T_goto, T_ret, c2, c350, ↓s350, Sk, x2, lt0, show ¬ f < q by omega, ↓reduceIte, TK, lt_run hn, le43, Int.le_refl, Int.lt_irrefl, Option.some.injEq, exists_eq_left', true_and, and_true, if_true, if_false, decide_eq_false_iff_not, decide_eq_true_eq, Nat.reduceAdd, Nat.reduceLeDiff, Nat.reduceLT, Int.reduceAdd, Int.reduceSub, Int.reduceMul, Int.reduceNeg, not_true_eq_false, not_false_eq_true]
    refine ih (_, _, _) _ ⟨rfl, ?_, ?_⟩
    · dsimp only
      rw [show q + 1 - 1 = q by omega, ss.2, ss.1]
    · dsimp only
      rw [show q + 1 - 1 = q by omega, ss.1]
  · rintro ⟨p, v, v7⟩ h' ⟨rfl, y1, y2⟩
    dsimp only at y1 y2 ⊢
    rw [show f + 1 - 1 = f by omega] at y1
    rw [y1]
    rw [k7_1]
    simp +decide (maxSteps := 4000000) (disch := omega) only [k7_0, k7_2, k7_r, k7_s, T_I, F_al0, F_an0, T_mul, F_is4i, F_is4r, F_is4m, F_is5i, F_is5r, F_is5m, F_is6i, F_is6r, F_is6m, T_ft, F_il6, F_il1, T_icgt, F_il4, T_sub, F_il2, F_is7i, F_is7r, F_is7m, F_il5, F_il7, T_add, F_il3, F_inc6i, F_inc6r, F_inc6m, T_goto, T_ret, c2, c350, ↓s2, ↓s350, show f < f + 1 by omega, ↓reduceIte, TK, lt_run hn, le43, Int.le_refl, Int.lt_irrefl, Option.some.injEq, exists_eq_left', true_and, and_true, if_true, if_false, decide_eq_false_iff_not, decide_eq_true_eq, Nat.reduceAdd, Nat.reduceLeDiff, Nat.reduceLT, Int.reduceAdd, Int.reduceSub, Int.reduceMul, Int.reduceNeg, not_true_eq_false, not_false_eq_true]
    exact k
theorem Pswing (F : FH hr) (hn : 775 ≤ n) (C : Cp12 h hr) (x y z w : Int32) : Pr2 E 179 298 [.int x, .int y, .int z, .int w] h hr n (Po (fun _ => True) 0 0 h hr n) := by
  obtain ⟨N, b, C⟩ := C
  obtain ⟨a, ha, ha', rfl⟩ := J_of x
  obtain ⟨f, hf, hf', rfl⟩ := J_of y
  obtain ⟨s, hs, hs', rfl⟩ := J_of z
  obtain ⟨d, hd, hd', rfl⟩ := J_of w
  have hN := C.1
  unfold Pr2
  by_cases g1 : 0 ≤ a ∧ a ≤ N - 1
  case neg =>
    simp +decide (maxSteps := 4000000) (disch := omega) only [k179_0, k179_1, k179_2, k179_r, k179_s, F_al0, F_il1, J_ifeq, F_il2, F_il3, T_I, F_il4, J_ifne, T_ft, T_ret, T_getR, X_aald, c7, c138, c168, c173, ↓s138, ↓s173, FX F, ↓s168 hn C.2.2.1.1 hN, ↓s286 hn C.2.2.1.2 hN, g1, ↓reduceIte, TK, lt_run hn, le43, Int.le_refl, Int.lt_irrefl, Option.some.injEq, exists_eq_left', true_and, and_true, if_true, if_false, decide_eq_false_iff_not, decide_eq_true_eq, Nat.reduceAdd, Nat.reduceLeDiff, Nat.reduceLT, Int.reduceAdd, Int.reduceSub, Int.reduceMul, Int.reduceNeg, not_true_eq_false, not_false_eq_true]
    refine ⟨_, rfl, ?_⟩
    simp +decide (maxSteps := 4000000) (disch := omega) only [k298_0, k298_1, k298_2, k298_4, k298_r, k298_s, F_al0, F_il1, J_ifeq, F_il2, F_il3, T_I, F_il4, J_ifne, T_ft, T_ret, T_L, T_i2l, T_mulL, T_lst, F_is9i, F_is9r, F_is9m, F_il9, T_icgt, F_ll7, F_ll5, T_subL, T_addL, F_inc9i, F_inc9r, F_inc9m, T_goto, T_l2i, c219, c244, c286, c287, c291, ↓s219, ↓s244, ↓s287, FM F, ↓s168 hn C.2.2.1.1 hN, ↓s286 hn C.2.2.1.2 hN, g1, ↓reduceIte, TK, lt_run hn, le43, Int.le_refl, Int.lt_irrefl, Option.some.injEq, exists_eq_left', true_and, and_true, if_true, if_false, decide_eq_false_iff_not, decide_eq_true_eq, Nat.reduceAdd, Nat.reduceLeDiff, Nat.reduceLT, Int.reduceAdd, Int.reduceSub, Int.reduceMul, Int.reduceNeg, not_true_eq_false, not_false_eq_true]
    first | exact ⟨rfl, ⟨trivial, Kp.refl⟩, rfl, rfl⟩ | exact ⟨⟨trivial, Kp.refl⟩, rfl, rfl⟩ | exact ⟨trivial, Kp.refl⟩
  by_cases g2 : 0 ≤ f ∧ f ≤ 119
  case neg =>
    simp +decide (maxSteps := 4000000) (disch := omega) only [k179_0, k179_1, k179_2, k179_r, k179_s, F_al0, F_il1, J_ifeq, F_il2, F_il3, T_I, F_il4, J_ifne, T_ft, T_ret, T_getR, X_aald, c7, c138, c168, c173, ↓s138, ↓s173, FX F, ↓s168 hn C.2.2.1.1 hN, ↓s286 hn C.2.2.1.2 hN, g1, g2, ↓reduceIte, TK, lt_run hn, le43, Int.le_refl, Int.lt_irrefl, Option.some.injEq, exists_eq_left', true_and, and_true, if_true, if_false, decide_eq_false_iff_not, decide_eq_true_eq, Nat.reduceAdd, Nat.reduceLeDiff, Nat.reduceLT, Int.reduceAdd, Int.reduceSub, Int.reduceMul, Int.reduceNeg, not_true_eq_false, not_false_eq_true]
    refine ⟨_, rfl, ?_⟩
    simp +decide (maxSteps := 4000000) (disch := omega) only [k298_0, k298_1, k298_2, k298_4, k298_r, k298_s, F_al0, F_il1, J_ifeq, F_il2, F_il3, T_I, F_il4, J_ifne, T_ft, T_ret, T_L, T_i2l, T_mulL, T_lst, F_is9i, F_is9r, F_is9m, F_il9, T_icgt, F_ll7, F_ll5, T_subL, T_addL, F_inc9i, F_inc9r, F_inc9m, T_goto, T_l2i, c219, c244, c286, c287, c291, ↓s219, ↓s244, ↓s287, FM F, ↓s168 hn C.2.2.1.1 hN, ↓s286 hn C.2.2.1.2 hN, g1, g2, ↓reduceIte, TK, lt_run hn, le43, Int.le_refl, Int.lt_irrefl, Option.some.injEq, exists_eq_left', true_and, and_true, if_true, if_false, decide_eq_false_iff_not, decide_eq_true_eq, Nat.reduceAdd, Nat.reduceLeDiff, Nat.reduceLT, Int.reduceAdd, Int.reduceSub, Int.reduceMul, Int.reduceNeg, not_true_eq_false, not_false_eq_true]
    first | exact ⟨rfl, ⟨trivial, Kp.refl⟩, rfl, rfl⟩ | exact ⟨⟨trivial, Kp.refl⟩, rfl, rfl⟩ | exact ⟨trivial, Kp.refl⟩
  by_cases g3 : 0 ≤ s ∧ s ≤ 16
  case neg =>
    simp +decide (maxSteps := 4000000) (disch := omega) only [k179_0, k179_1, k179_2, k179_r, k179_s, F_al0, F_il1, J_ifeq, F_il2, F_il3, T_I, F_il4, J_ifne, T_ft, T_ret, T_getR, X_aald, c7, c138, c168, c173, ↓s138, ↓s173, FX F, ↓s168 hn C.2.2.1.1 hN, ↓s286 hn C.2.2.1.2 hN, g1, g2, g3, ↓reduceIte, TK, lt_run hn, le43, Int.le_refl, Int.lt_irrefl, Option.some.injEq, exists_eq_left', true_and, and_true, if_true, if_false, decide_eq_false_iff_not, decide_eq_true_eq, Nat.reduceAdd, Nat.reduceLeDiff, Nat.reduceLT, Int.reduceAdd, Int.reduceSub, Int.reduceMul, Int.reduceNeg, not_true_eq_false, not_false_eq_true]
    refine ⟨_, rfl, ?_⟩
    simp +decide (maxSteps := 4000000) (disch := omega) only [k298_0, k298_1, k298_2, k298_4, k298_r, k298_s, F_al0, F_il1, J_ifeq, F_il2, F_il3, T_I, F_il4, J_ifne, T_ft, T_ret, T_L, T_i2l, T_mulL, T_lst, F_is9i, F_is9r, F_is9m, F_il9, T_icgt, F_ll7, F_ll5, T_subL, T_addL, F_inc9i, F_inc9r, F_inc9m, T_goto, T_l2i, c219, c244, c286, c287, c291, ↓s219, ↓s244, ↓s287, FM F, ↓s168 hn C.2.2.1.1 hN, ↓s286 hn C.2.2.1.2 hN, g1, g2, g3, ↓reduceIte, TK, lt_run hn, le43, Int.le_refl, Int.lt_irrefl, Option.some.injEq, exists_eq_left', true_and, and_true, if_true, if_false, decide_eq_false_iff_not, decide_eq_true_eq, Nat.reduceAdd, Nat.reduceLeDiff, Nat.reduceLT, Int.reduceAdd, Int.reduceSub, Int.reduceMul, Int.reduceNeg, not_true_eq_false, not_false_eq_true]
    first | exact ⟨rfl, ⟨trivial, Kp.refl⟩, rfl, rfl⟩ | exact ⟨⟨trivial, Kp.refl⟩, rfl, rfl⟩ | exact ⟨trivial, Kp.refl⟩
  by_cases g4 : 0 ≤ d ∧ d ≤ 16
  case neg =>
    simp +decide (maxSteps := 4000000) (disch := omega) only [k179_0, k179_1, k179_2, k179_r, k179_s, F_al0, F_il1, J_ifeq, F_il2, F_il3, T_I, F_il4, J_ifne, T_ft, T_ret, T_getR, X_aald, c7, c138, c168, c173, ↓s138, ↓s173, FX F, ↓s168 hn C.2.2.1.1 hN, ↓s286 hn C.2.2.1.2 hN, g1, g2, g3, g4, ↓reduceIte, TK, lt_run hn, le43, Int.le_refl, Int.lt_irrefl, Option.some.injEq, exists_eq_left', true_and, and_true, if_true, if_false, decide_eq_false_iff_not, decide_eq_true_eq, Nat.reduceAdd, Nat.reduceLeDiff, Nat.reduceLT, Int.reduceAdd, Int.reduceSub, Int.reduceMul, Int.reduceNeg, not_true_eq_false, not_false_eq_true]
    refine ⟨_, rfl, ?_⟩
    simp +decide (maxSteps := 4000000) (disch := omega) only [k298_0, k298_1, k298_2, k298_4, k298_r, k298_s, F_al0, F_il1, J_ifeq, F_il2, F_il3, T_I, F_il4, J_ifne, T_ft, T_ret, T_L, T_i2l, T_mulL, T_lst, F_is9i, F_is9r, F_is9m, F_il9, T_icgt, F_ll7, F_ll5, T_subL, T_addL, F_inc9i, F_inc9r, F_inc9m, T_goto, T_l2i, c219, c244, c286, c287, c291, ↓s219, ↓s244, ↓s287, FM F, ↓s168 hn C.2.2.1.1 hN, ↓s286 hn C.2.2.1.2 hN, g1, g2, g3, g4, ↓reduceIte, TK, lt_run hn, le43, Int.le_refl, Int.lt_irrefl, Option.some.injEq, exists_eq_left', true_and, and_true, if_true, if_false, decide_eq_false_iff_not, decide_eq_true_eq, Nat.reduceAdd, Nat.reduceLeDiff, Nat.reduceLT, Int.reduceAdd, Int.reduceSub, Int.reduceMul, Int.reduceNeg, not_true_eq_false, not_false_eq_true]
    first | exact ⟨rfl, ⟨trivial, Kp.refl⟩, rfl, rfl⟩ | exact ⟨⟨trivial, Kp.refl⟩, rfl, rfl⟩ | exact ⟨trivial, Kp.refl⟩
  have x1 := X98 F g1.1 (show a < 10 by omega)
  have V := C.v F (i := a) (by omega) (by omega)
  have e := bid_p g1.1
  have x2 := V.1.x E F
  have x3 := V.1.r
  rw [e] at x2 x3
  have R := C.2.1
  have hT : ∀ k, 0 ≤ an b k a ∧ an b k a ≤ 31 := fun k => an_r R k (by omega) (by omega)
  simp +decide (maxSteps := 4000000) (disch := omega) only [k179_0, k179_1, k179_2, k179_r, k179_s, F_al0, F_il1, J_ifeq, F_il2, F_il3, T_I, F_il4, J_ifne, T_ft, T_ret, T_getR, X_aald, c7, c138, c168, c173, ↓s138, ↓s173, FX F, ↓s168 hn C.2.2.1.1 hN, g1, g2, g3, g4, x1, x2, kd_98, ln_98, ↓reduceIte, TK, lt_run hn, le43, Int.le_refl, Int.lt_irrefl, Option.some.injEq, exists_eq_left', true_and, and_true, if_true, if_false, decide_eq_false_iff_not, decide_eq_true_eq, Nat.reduceAdd, Nat.reduceLeDiff, Nat.reduceLT, Int.reduceAdd, Int.reduceSub, Int.reduceMul, Int.reduceNeg, not_true_eq_false, not_false_eq_true]
  rw [← e]
  refine w7 F hn C g1.1 (by omega) g2 g3 g4 ?_
  simp +decide (maxSteps := 4000000) (disch := omega) only [k179_0, k179_1, k179_2, k179_r, k179_s, F_al0, F_il1, J_ifeq, F_il2, F_il3, T_I, F_il4, J_ifne, T_ft, T_ret, T_getR, X_aald, c7, c138, c168, c173, ↓s138, ↓s168, ↓s173, ↓reduceIte, TK, lt_run hn, le43, Int.le_refl, Int.lt_irrefl, Option.some.injEq, exists_eq_left', true_and, and_true, if_true, if_false, decide_eq_false_iff_not, decide_eq_true_eq, Nat.reduceAdd, Nat.reduceLeDiff, Nat.reduceLT, Int.reduceAdd, Int.reduceSub, Int.reduceMul, Int.reduceNeg, not_true_eq_false, not_false_eq_true]
  refine ⟨_, rfl, ?_⟩
  have t0 := hT 0
  simp +decide (maxSteps := 4000000) (disch := omega) only [k298_0, k298_1, k298_2, k298_4, k298_r, k298_s, F_al0, F_il1, J_ifeq, F_il2, F_il3, T_I, F_il4, J_ifne, T_ft, T_ret, T_L, T_i2l, T_mulL, T_lst, F_is9i, F_is9r, F_is9m, F_il9, T_icgt, F_ll7, F_ll5, T_subL, T_addL, F_inc9i, F_inc9r, F_inc9m, T_goto, T_l2i, c219, c244, c286, c287, c291, ↓s219, ↓s244, ↓s287, FM F, ↓s286 hn C.2.2.1.2 hN, g1, g2, g3, g4, ↓reduceIte, TK, lt_run hn, le43, Int.le_refl, Int.lt_irrefl, Option.some.injEq, exists_eq_left', true_and, and_true, if_true, if_false, decide_eq_false_iff_not, decide_eq_true_eq, Nat.reduceAdd, Nat.reduceLeDiff, Nat.reduceLT, Int.reduceAdd, Int.reduceSub, Int.reduceMul, Int.reduceNeg, not_true_eq_false, not_false_eq_true]
  refine w291 F hn g1.1 (by omega) (R a g1.1 (by omega)) (C.2.2.2.1 a g1.1 (by omega)).2 (by omega) ?_
  simp +decide (maxSteps := 4000000) (disch := omega) only [k298_0, k298_1, k298_2, k298_4, k298_r, k298_s, F_al0, F_il1, J_ifeq, F_il2, F_il3, T_I, F_il4, J_ifne, T_ft, T_ret, T_L, T_i2l, T_mulL, T_lst, F_is9i, F_is9r, F_is9m, F_il9, T_icgt, F_ll7, F_ll5, T_subL, T_addL, F_inc9i, F_inc9r, F_inc9m, T_goto, T_l2i, c219, c244, c286, c287, c291, ↓s219, ↓s244, ↓s286, ↓s287, FM F, J_l, ↓reduceIte, TK, lt_run hn, le43, Int.le_refl, Int.lt_irrefl, Option.some.injEq, exists_eq_left', true_and, and_true, if_true, if_false, decide_eq_false_iff_not, decide_eq_true_eq, Nat.reduceAdd, Nat.reduceLeDiff, Nat.reduceLT, Int.reduceAdd, Int.reduceSub, Int.reduceMul, Int.reduceNeg, not_true_eq_false, not_false_eq_true]
  refine T_for (σ := Int × Int) (fun k v => [.ref 704, .int (J a), .int (J f), .int (J s), .int (J d), .long (L v.1), a_mk, .long (L v.2), a_mk, .int (J k)]) (fun k v h' => h' = h ∧ v.1 = (spr (fun k => an b k a) s d (k - 1).toNat).1 ∧ v.2 = (spr (fun k => an b k a) s d (k - 1).toNat).2) 1 (f + 1) ?_ ?_ 1 (256 * an b 0 a, 0) h (by omega) (by omega) ⟨rfl, rfl, rfl⟩
  · rintro k ⟨p, v⟩ h' k0 k1 ⟨rfl, c1, c2⟩ ih
    dsimp only at c1 c2 ⊢
    have tk := hT k
    have sr := spr_r hT g3 g4 (m := (k - 1).toNat) (by omega)
    rw [← c1, ← c2] at sr
    have ss := spr_s (fun k => an b k a) s d (k := k) k0
    rw [← c1, ← c2] at ss
    have m1 := mulb (a := 256 * an b k a - p) (b := s) (A := 60008000) (B := 16) (by omega) (by omega)
    have m2 := mulb (a := v) (b := d) (A := 60000000) (B := 16) (by omega) (by omega)
    rw [k298_3]
    simp +decide (maxSteps := 4000000) (disch := omega) only [k298_0, k298_1, k298_2, k298_4, k298_r, k298_s, F_al0, F_il1, J_ifeq, F_il2, F_il3, T_I, F_il4, J_ifne, T_ft, T_ret, T_L, T_i2l, T_mulL, T_lst, F_is9i, F_is9r, F_is9m, F_il9, T_icgt, F_ll7, F_ll5, T_subL, T_addL, F_inc9i, F_inc9r, F_inc9m, T_goto, T_l2i, c219, c244, c286, c287, c291, ↓s219, ↓s244, ↓s286, ↓s287, FM F, J_l, show ¬ f < k by omega, ↓reduceIte, TK, lt_run hn, le43, Int.le_refl, Int.lt_irrefl, Option.some.injEq, exists_eq_left', true_and, and_true, if_true, if_false, decide_eq_false_iff_not, decide_eq_true_eq, Nat.reduceAdd, Nat.reduceLeDiff, Nat.reduceLT, Int.reduceAdd, Int.reduceSub, Int.reduceMul, Int.reduceNeg, not_true_eq_false, not_false_eq_true]
    refine w291 F hn g1.1 (by omega) (R a g1.1 (by omega)) (C.2.2.2.1 a g1.1 (by omega)).2 (by omega) ?_
    simp +decide (maxSteps := 4000000) (disch := omega) only [k298_0, k298_1, k298_2, k298_4, k298_r, k298_s, F_al0, F_il1, J_ifeq, F_il2, F_il3, T_I, F_il4, J_ifne, T_ft, T_ret, T_L, T_i2l, T_mulL, T_lst, F_is9i, F_is9r, F_is9m, F_il9, T_icgt, F_ll7, F_ll5, T_subL, T_addL, F_inc9i, F_inc9r, F_inc9m, T_goto, T_l2i, c219, c244, c286, c287, c291, ↓s219, ↓s244, ↓s286, ↓s287, FM F, J_l, ↓reduceIte, TK, lt_run hn, le43, Int.le_refl, Int.lt_irrefl, Option.some.injEq, exists_eq_left', true_and, and_true, if_true, if_false, decide_eq_false_iff_not, decide_eq_true_eq, Nat.reduceAdd, Nat.reduceLeDiff, Nat.reduceLT, Int.reduceAdd, Int.reduceSub, Int.reduceMul, Int.reduceNeg, not_true_eq_false, not_false_eq_true]
    refine ih (_, _) _ ⟨rfl, ?_, ?_⟩
    · dsimp only
      rw [show k + 1 - 1 = k by omega, ss.2, ss.1]
    · dsimp only
      rw [show k + 1 - 1 = k by omega, ss.1]
  · rintro ⟨p, v⟩ h' ⟨rfl, c1, c2⟩
    dsimp only at c1 c2 ⊢
    rw [show f + 1 - 1 = f by omega] at c1
    rw [c1]
    rw [k298_3]
    simp +decide (maxSteps := 4000000) (disch := omega) only [k298_0, k298_1, k298_2, k298_4, k298_r, k298_s, F_al0, F_il1, J_ifeq, F_il2, F_il3, T_I, F_il4, J_ifne, T_ft, T_ret, T_L, T_i2l, T_mulL, T_lst, F_is9i, F_is9r, F_is9m, F_il9, T_icgt, F_ll7, F_ll5, T_subL, T_addL, F_inc9i, F_inc9r, F_inc9m, T_goto, T_l2i, c219, c244, c286, c287, c291, ↓s219, ↓s244, ↓s286, ↓s287, show f < f + 1 by omega, ↓reduceIte, TK, lt_run hn, le43, Int.le_refl, Int.lt_irrefl, Option.some.injEq, exists_eq_left', true_and, and_true, if_true, if_false, decide_eq_false_iff_not, decide_eq_true_eq, Nat.reduceAdd, Nat.reduceLeDiff, Nat.reduceLT, Int.reduceAdd, Int.reduceSub, Int.reduceMul, Int.reduceNeg, not_true_eq_false, not_false_eq_true]
    exact ⟨⟨trivial, Kp.refl⟩, rfl, rfl⟩
end SG
