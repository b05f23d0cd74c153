/-! Where two SEGMENTS meet: two ways to say it -/
def Btw (a b c : Int) : Prop := (a ≤ c ∧ c ≤ b) ∨ (b ≤ c ∧ c ≤ a)
def Ovl (a b c d : Int) : Prop := (a ≤ c ∨ a ≤ d ∨ b ≤ c ∨ b ≤ d) ∧ (c ≤ a ∨ c ≤ b ∨ d ≤ a ∨ d ≤ b)
def sid (ax ay bx bY cx cy : Int) : Int := (bx - ax) * (cy - ay) - (bY - ay) * (cx - ax)
theorem sid_1 (ax ay bx bY cx cy dx dy : Int) : sid cx cy dx dy ax ay - sid cx cy dx dy bx bY = sid ax ay bx bY dx dy - sid ax ay bx bY cx cy := by
  unfold sid
  grind
theorem sid_2 (ax ay bx bY cx cy dx dy : Int) : sid cx cy dx dy ax ay * bx - sid cx cy dx dy bx bY * ax = sid ax ay bx bY dx dy * cx - sid ax ay bx bY cx cy * dx := by
  unfold sid
  grind
theorem sid_3 (ax ay bx bY cx cy dx dy : Int) : sid cx cy dx dy ax ay * bY - sid cx cy dx dy bx bY * ay = sid ax ay bx bY dx dy * cy - sid ax ay bx bY cx cy * dy := by
  unfold sid
  grind
/-- a mean lies between -/
theorem cvx {t u a b c m M : Int} (ht : 0 ≤ t) (hu : u ≤ 0) (hk : 0 < t - u) (e : (t - u) * c = t * b - u * a) (ha : m ≤ a ∧ a ≤ M) (hb : m ≤ b ∧ b ≤ M) : m ≤ c ∧ c ≤ M := by
  have h1 : t * m ≤ t * b := Int.mul_le_mul_of_nonneg_left hb.1 ht
  have h2 : t * b ≤ t * M := Int.mul_le_mul_of_nonneg_left hb.2 ht
  have h3 : u * a ≤ u * m := Int.mul_le_mul_of_nonpos_left hu ha.1
  have h4 : u * M ≤ u * a := Int.mul_le_mul_of_nonpos_left hu ha.2
  have e1 : (t - u) * m = t * m - u * m := Int.sub_mul t u m
  have e2 : (t - u) * M = t * M - u * M := Int.sub_mul t u M
  exact ⟨Int.le_of_mul_le_mul_left (a := t - u) (by omega) hk, Int.le_of_mul_le_mul_left (a := t - u) (by omega) hk⟩
theorem cvx_b {t u a b c : Int} (h : t * u ≤ 0) (hk : t - u ≠ 0) (e : (t - u) * c = t * b - u * a) : Btw a b c := by
  have key : ∀ t u : Int, 0 ≤ t → u ≤ 0 → 0 < t - u → (t - u) * c = t * b - u * a → Btw a b c := fun t u h1 h2 h3 h4 => by
    unfold Btw
    by_cases q : a ≤ b
    · exact Or.inl (cvx h1 h2 h3 h4 ⟨Int.le_refl a, q⟩ ⟨q, Int.le_refl b⟩)
    · exact Or.inr (cvx h1 h2 h3 h4 ⟨by omega, Int.le_refl a⟩ ⟨Int.le_refl b, by omega⟩)
  by_cases ht : 0 ≤ t
  · by_cases hu : u ≤ 0
    · exact key t u ht hu (by omega) e
    · have h1 : t = 0 := by
        by_cases q : t = 0
        · exact q
        · have := Int.mul_pos (show 0 < t by omega) (show 0 < u by omega)
          omega
      subst h1
      refine key (-0) (-u) (by decide) (by omega) (by omega) ?_
      rw [show (-0 - -u) * c = -((0 - u) * c) by grind, e]
      grind
  · have hu : 0 ≤ u := by
      by_cases q : 0 ≤ u
      · exact q
      · have := Int.mul_pos_of_neg_of_neg (show t < 0 by omega) (show u < 0 by omega)
        omega
    refine key (-t) (-u) (by omega) (by omega) (by omega) ?_
    rw [show (-t - -u) * c = -((t - u) * c) by grind, e]
    grind
/-- on a line that is not upright, between in x is between in y -/
theorem on_y {ax ay bx bY cx cy : Int} (hs : sid ax ay bx bY cx cy = 0) (hne : ax ≠ bx) (hx : Btw ax bx cx) : Btw ay bY cy := by
  have e : (bx - ax) * cy = (cx - ax) * bY - (cx - bx) * ay := by
    unfold sid at hs
    grind
  refine cvx_b (t := cx - ax) (u := cx - bx) ?_ (by omega) ?_
  · unfold Btw at hx
    rcases hx with hx | hx
    · have := Int.mul_nonneg (show 0 ≤ cx - ax by omega) (show 0 ≤ bx - cx by omega)
      have e2 : (cx - ax) * (bx - cx) = -((cx - ax) * (cx - bx)) := by grind
      omega
    · have := Int.mul_nonneg (show 0 ≤ ax - cx by omega) (show 0 ≤ cx - bx by omega)
      have e2 : (ax - cx) * (cx - bx) = -((cx - ax) * (cx - bx)) := by grind
      omega
  · rw [show cx - ax - (cx - bx) = bx - ax by omega]
    exact e
/-- all on one line -/
theorem mt_line {ax ay bx bY cx cy dx dy : Int} (h1 : sid ax ay bx bY cx cy = 0) (h2 : sid ax ay bx bY dx dy = 0) (h3 : sid cx cy dx dy ax ay = 0) (h4 : sid cx cy dx dy bx bY = 0) (ox : Ovl ax bx cx dx) (oy : Ovl ay bY cy dy) :
    (Btw ax bx cx ∧ Btw ay bY cy) ∨ (Btw ax bx dx ∧ Btw ay bY dy) ∨ (Btw cx dx ax ∧ Btw cy dy ay) ∨ (Btw cx dx bx ∧ Btw cy dy bY) := by
  by_cases ga : ax = bx
  · by_cases gc : cx = dx
    · unfold Ovl at ox oy
      unfold Btw
      omega
    · have k1 := fun hx => on_y h3 gc hx
      have k2 := fun hx => on_y h4 gc hx
      have hx : Btw cx dx ax := by
        unfold Ovl at ox
        unfold Btw
        omega
      exact Or.inr (Or.inr (Or.inl ⟨hx, k1 hx⟩))
  · by_cases gc : cx = dx
    · have hx : Btw ax bx cx := by
        unfold Ovl at ox
        unfold Btw
        omega
      exact Or.inl ⟨hx, on_y h1 ga hx⟩
    · have hx : Btw ax bx cx ∨ Btw ax bx dx ∨ Btw cx dx ax ∨ Btw cx dx bx := by
        unfold Ovl at ox
        unfold Btw
        omega
      rcases hx with hx | hx | hx | hx
      · exact Or.inl ⟨hx, on_y h1 ga hx⟩
      · exact Or.inr (Or.inl ⟨hx, on_y h2 ga hx⟩)
      · exact Or.inr (Or.inr (Or.inl ⟨hx, on_y h3 gc hx⟩))
      · exact Or.inr (Or.inr (Or.inr ⟨hx, on_y h4 gc hx⟩))
theorem sq_0 {a : Int} (h : a * a ≤ 0) : a = 0 := by
  by_cases q : a = 0
  · exact q
  · by_cases g : 0 < a
    · have := Int.mul_pos g g
      omega
    · have := Int.mul_pos_of_neg_of_neg (show a < 0 by omega) (show a < 0 by omega)
      omega
theorem neg_or {a b : Int} (h : a * b ≤ 0) : a * b < 0 ∨ a = 0 ∨ b = 0 := by
  by_cases q : a * b = 0
  · exact Or.inr (Int.mul_eq_zero.mp q)
  · exact Or.inl (by omega)
/-- what the class asks is what the reference asks -/
theorem mt_1 {ax ay bx bY cx cy dx dy : Int} (ox : Ovl ax bx cx dx) (oy : Ovl ay bY cy dy) (hs : sid ax ay bx bY cx cy * sid ax ay bx bY dx dy ≤ 0) (ht : sid cx cy dx dy ax ay * sid cx cy dx dy bx bY ≤ 0) :
    (sid ax ay bx bY cx cy * sid ax ay bx bY dx dy < 0 ∧ sid cx cy dx dy ax ay * sid cx cy dx dy bx bY < 0) ∨ (sid ax ay bx bY cx cy = 0 ∧ Btw ax bx cx ∧ Btw ay bY cy) ∨ (sid ax ay bx bY dx dy = 0 ∧ Btw ax bx dx ∧ Btw ay bY dy) ∨ (sid cx cy dx dy ax ay = 0 ∧ Btw cx dx ax ∧ Btw cy dy ay) ∨ (sid cx cy dx dy bx bY = 0 ∧ Btw cx dx bx ∧ Btw cy dy bY) := by
  have i1 := sid_1 ax ay bx bY cx cy dx dy
  have i2 := sid_2 ax ay bx bY cx cy dx dy
  have i3 := sid_3 ax ay bx bY cx cy dx dy
  have q := mt_line (ax := ax) (ay := ay) (bx := bx) (bY := bY) (cx := cx) (cy := cy) (dx := dx) (dy := dy)
  generalize sid ax ay bx bY cx cy = s1 at *
  generalize sid ax ay bx bY dx dy = s2 at *
  generalize sid cx cy dx dy ax ay = t1 at *
  generalize sid cx cy dx dy bx bY = t2 at *
  by_cases k : t1 - t2 = 0
  · have es : s1 = s2 := by omega
    have et : t1 = t2 := by omega
    subst es
    subst et
    have hs0 := sq_0 hs
    have ht0 := sq_0 ht
    rcases q hs0 hs0 ht0 ht0 ox oy with r | r | r | r
    · exact Or.inr (Or.inl ⟨hs0, r⟩)
    · exact Or.inr (Or.inr (Or.inl ⟨hs0, r⟩))
    · exact Or.inr (Or.inr (Or.inr (Or.inl ⟨ht0, r⟩)))
    · exact Or.inr (Or.inr (Or.inr (Or.inr ⟨ht0, r⟩)))
  · have hs' : s2 * s1 ≤ 0 := by rw [Int.mul_comm]; exact hs
    have z : s1 = 0 ∨ s2 = 0 ∨ t1 = 0 ∨ t2 = 0 ∨ (s1 * s2 < 0 ∧ t1 * t2 < 0) := by
      have n1 := neg_or hs
      have n2 := neg_or ht
      omega
    rcases z with z | z | z | z | z
    · refine Or.inr (Or.inl ⟨z, cvx_b ht k ?_, cvx_b ht k ?_⟩)
      · rw [i2, z, i1, z]
        grind
      · rw [i3, z, i1, z]
        grind
    · refine Or.inr (Or.inr (Or.inl ⟨z, cvx_b ht k ?_, cvx_b ht k ?_⟩))
      · rw [i2, z, i1, z]
        grind
      · rw [i3, z, i1, z]
        grind
    · refine Or.inr (Or.inr (Or.inr (Or.inl ⟨z, cvx_b (t := s1) (u := s2) hs (by omega) ?_, cvx_b (t := s1) (u := s2) hs (by omega) ?_⟩)))
      · grind
      · grind
    · refine Or.inr (Or.inr (Or.inr (Or.inr ⟨z, cvx_b (t := s1) (u := s2) hs (by omega) ?_, cvx_b (t := s1) (u := s2) hs (by omega) ?_⟩)))
      · grind
      · grind
    · exact Or.inl z
/-- an end on the other segment: that one lies on both sides -/
theorem mt_end {ax ay bx bY cx cy dx dy : Int} (h : sid ax ay bx bY cx cy = 0) (hx : Btw ax bx cx) (hy : Btw ay bY cy) : sid cx cy dx dy ax ay * sid cx cy dx dy bx bY ≤ 0 := by
  by_cases ga : ax = bx
  · by_cases gb : ay = bY
    · have e1 : cx = ax := by unfold Btw at hx; omega
      have e2 : cy = ay := by unfold Btw at hy; omega
      have : sid cx cy dx dy ax ay = 0 := by
        unfold sid
        rw [e1, e2]
        grind
      rw [this, Int.zero_mul]
      exact Int.le_refl _
    · have e0 : (bY - ay) * (sid cx cy dx dy ax ay) = (cy - ay) * (sid cx cy dx dy ax ay - sid cx cy dx dy bx bY) := by
        have e1 : cx = ax := by unfold Btw at hx; omega
        unfold sid
        rw [e1, ← ga]
        grind
      have e1 : cx = ax := by unfold Btw at hx; omega
      have t1 : sid cx cy dx dy ax ay = (dx - cx) * (ay - cy) := by
        unfold sid
        rw [e1]
        grind
      have t2 : sid cx cy dx dy bx bY = (dx - cx) * (bY - cy) := by
        unfold sid
        rw [e1, ← ga]
        grind
      rw [t1, t2, show (dx - cx) * (ay - cy) * ((dx - cx) * (bY - cy)) = (dx - cx) * (dx - cx) * ((ay - cy) * (bY - cy)) by grind]
      have h1 : 0 ≤ (dx - cx) * (dx - cx) := by
        by_cases q : 0 ≤ dx - cx
        · exact Int.mul_nonneg q q
        · exact Int.mul_nonneg_of_nonpos_of_nonpos (by omega) (by omega)
      refine Int.mul_nonpos_of_nonneg_of_nonpos h1 ?_
      unfold Btw at hy
      rcases hy with hy | hy
      · exact Int.mul_nonpos_of_nonpos_of_nonneg (by omega) (by omega)
      · exact Int.mul_nonpos_of_nonneg_of_nonpos (by omega) (by omega)
  · have e0 : (bx - ax) * sid cx cy dx dy ax ay = (ax - cx) * ((dx - cx) * (bY - ay) - (dy - cy) * (bx - ax)) := by
      unfold sid at h ⊢
      grind
    have e1 : (bx - ax) * sid cx cy dx dy bx bY = (bx - cx) * ((dx - cx) * (bY - ay) - (dy - cy) * (bx - ax)) := by
      unfold sid at h ⊢
      grind
    generalize (dx - cx) * (bY - ay) - (dy - cy) * (bx - ax) = w at e0 e1
    generalize sid cx cy dx dy ax ay = t1 at e0 ⊢
    generalize sid cx cy dx dy bx bY = t2 at e1 ⊢
    have e2 : (bx - ax) * (bx - ax) * (t1 * t2) = ((ax - cx) * (bx - cx)) * (w * w) := by
      rw [show (bx - ax) * (bx - ax) * (t1 * t2) = ((bx - ax) * t1) * ((bx - ax) * t2) by grind, e0, e1]
      grind
    have h1 : (ax - cx) * (bx - cx) ≤ 0 := by
      unfold Btw at hx
      rcases hx with hx | hx
      · exact Int.mul_nonpos_of_nonpos_of_nonneg (by omega) (by omega)
      · exact Int.mul_nonpos_of_nonneg_of_nonpos (by omega) (by omega)
    have sq : ∀ z : Int, 0 ≤ z * z := fun z => by
      by_cases q : 0 ≤ z
      · exact Int.mul_nonneg q q
      · exact Int.mul_nonneg_of_nonpos_of_nonpos (by omega) (by omega)
    have h2 : ((ax - cx) * (bx - cx)) * (w * w) ≤ 0 := Int.mul_nonpos_of_nonpos_of_nonneg h1 (sq w)
    have h3 : 0 < (bx - ax) * (bx - ax) := by
      have := sq (bx - ax)
      by_cases q : (bx - ax) * (bx - ax) ≤ 0
      · have := sq_0 q
        omega
      · omega
    by_cases q : t1 * t2 ≤ 0
    · exact q
    · have := Int.mul_pos h3 (show 0 < t1 * t2 by omega)
      omega
/-- two segments that cross have boxes that meet -/
theorem mt_ovl {s1 s2 t1 t2 a b c d : Int} (hs : s1 * s2 < 0) (ht : t1 * t2 < 0) (i1 : t1 - t2 = s2 - s1) (i2 : t1 * b - t2 * a = s2 * c - s1 * d) : Ovl a b c d := by
  have key : ∀ s1 s2 t1 t2 : Int, 0 < t1 → t2 < 0 → s1 < 0 → 0 < s2 → t1 - t2 = s2 - s1 → t1 * b - t2 * a = s2 * c - s1 * d → Ovl a b c d := fun s1 s2 t1 t2 h1 h2 h3 h4 j1 j2 => by
    unfold Ovl
    have m1 : ∀ m, a ≤ m → b ≤ m → t1 * b - t2 * a ≤ (t1 - t2) * m := fun m q1 q2 => by
      have := Int.mul_le_mul_of_nonneg_left q2 (show 0 ≤ t1 by omega)
      have := Int.mul_le_mul_of_nonpos_left (show t2 ≤ 0 by omega) q1
      rw [Int.sub_mul]
      omega
    have m2 : ∀ m, m ≤ a → m ≤ b → (t1 - t2) * m ≤ t1 * b - t2 * a := fun m q1 q2 => by
      have := Int.mul_le_mul_of_nonneg_left q2 (show 0 ≤ t1 by omega)
      have := Int.mul_le_mul_of_nonpos_left (show t2 ≤ 0 by omega) q1
      rw [Int.sub_mul]
      omega
    have m3 : ∀ m, c ≤ m → d ≤ m → s2 * c - s1 * d ≤ (s2 - s1) * m := fun m q1 q2 => by
      have := Int.mul_le_mul_of_nonneg_left q1 (show 0 ≤ s2 by omega)
      have := Int.mul_le_mul_of_nonpos_left (show s1 ≤ 0 by omega) q2
      rw [Int.sub_mul]
      omega
    have m4 : ∀ m, m ≤ c → m ≤ d → (s2 - s1) * m ≤ s2 * c - s1 * d := fun m q1 q2 => by
      have := Int.mul_le_mul_of_nonneg_left q1 (show 0 ≤ s2 by omega)
      have := Int.mul_le_mul_of_nonpos_left (show s1 ≤ 0 by omega) q2
      rw [Int.sub_mul]
      omega
    have kp : 0 < s2 - s1 := by omega
    refine ⟨?_, ?_⟩
    · by_cases q : a ≤ c ∨ a ≤ d ∨ b ≤ c ∨ b ≤ d
      · exact q
      · exfalso
        by_cases g : a ≤ b
        · by_cases g2 : c ≤ d
          · have := m2 a (Int.le_refl _) g
            have := m3 d g2 (Int.le_refl _)
            have := Int.mul_lt_mul_of_pos_left (show d < a by omega) kp
            rw [j1] at *
            omega
          · have := m2 a (Int.le_refl _) g
            have := m3 c (Int.le_refl _) (by omega)
            have := Int.mul_lt_mul_of_pos_left (show c < a by omega) kp
            rw [j1] at *
            omega
        · by_cases g2 : c ≤ d
          · have := m2 b (by omega) (Int.le_refl _)
            have := m3 d g2 (Int.le_refl _)
            have := Int.mul_lt_mul_of_pos_left (show d < b by omega) kp
            rw [j1] at *
            omega
          · have := m2 b (by omega) (Int.le_refl _)
            have := m3 c (Int.le_refl _) (by omega)
            have := Int.mul_lt_mul_of_pos_left (show c < b by omega) kp
            rw [j1] at *
            omega
    · by_cases q : c ≤ a ∨ c ≤ b ∨ d ≤ a ∨ d ≤ b
      · exact q
      · exfalso
        by_cases g : a ≤ b
        · by_cases g2 : c ≤ d
          · have := m1 b g (Int.le_refl _)
            have := m4 c (Int.le_refl _) g2
            have := Int.mul_lt_mul_of_pos_left (show b < c by omega) kp
            rw [j1] at *
            omega
          · have := m1 b g (Int.le_refl _)
            have := m4 d (by omega) (Int.le_refl _)
            have := Int.mul_lt_mul_of_pos_left (show b < d by omega) kp
            rw [j1] at *
            omega
        · by_cases g2 : c ≤ d
          · have := m1 a (Int.le_refl _) (by omega)
            have := m4 c (Int.le_refl _) g2
            have := Int.mul_lt_mul_of_pos_left (show a < c by omega) kp
            rw [j1] at *
            omega
          · have := m1 a (Int.le_refl _) (by omega)
            have := m4 d (by omega) (Int.le_refl _)
            have := Int.mul_lt_mul_of_pos_left (show a < d by omega) kp
            rw [j1] at *
            omega
  have sg : ∀ u v : Int, u * v < 0 → (0 < u ∧ v < 0) ∨ (u < 0 ∧ 0 < v) := fun u v h => by
    by_cases q : 0 ≤ u
    · by_cases g : 0 ≤ v
      · have := Int.mul_nonneg q g
        omega
      · by_cases z : u = 0
        · rw [z, Int.zero_mul] at h
          omega
        · omega
    · by_cases g : v ≤ 0
      · have := Int.mul_nonneg_of_nonpos_of_nonpos (show u ≤ 0 by omega) g
        omega
      · omega
  rcases sg t1 t2 ht with q | q
  · rcases sg s1 s2 hs with p | p
    · omega
    · exact key s1 s2 t1 t2 q.1 q.2 p.1 p.2 i1 i2
  · rcases sg s1 s2 hs with p | p
    · refine key (-s1) (-s2) (-t1) (-t2) (by omega) (by omega) (by omega) (by omega) (by omega) ?_
      grind
    · omega
theorem mt_2 {ax ay bx bY cx cy dx dy : Int} (h : (sid ax ay bx bY cx cy * sid ax ay bx bY dx dy < 0 ∧ sid cx cy dx dy ax ay * sid cx cy dx dy bx bY < 0) ∨ (sid ax ay bx bY cx cy = 0 ∧ Btw ax bx cx ∧ Btw ay bY cy) ∨ (sid ax ay bx bY dx dy = 0 ∧ Btw ax bx dx ∧ Btw ay bY dy) ∨ (sid cx cy dx dy ax ay = 0 ∧ Btw cx dx ax ∧ Btw cy dy ay) ∨ (sid cx cy dx dy bx bY = 0 ∧ Btw cx dx bx ∧ Btw cy dy bY)) :
    (Ovl ax bx cx dx ∧ Ovl ay bY cy dy) ∧ sid ax ay bx bY cx cy * sid ax ay bx bY dx dy ≤ 0 ∧ sid cx cy dx dy ax ay * sid cx cy dx dy bx bY ≤ 0 := by
  have i1 := sid_1 ax ay bx bY cx cy dx dy
  have i2 := sid_2 ax ay bx bY cx cy dx dy
  have i3 := sid_3 ax ay bx bY cx cy dx dy
  have sw : ∀ ax ay bx bY cx cy : Int, sid bx bY ax ay cx cy = -sid ax ay bx bY cx cy := fun ax ay bx bY cx cy => by
    unfold sid
    grind
  rcases h with h | h | h | h | h
  · exact ⟨⟨mt_ovl h.1 h.2 i1 i2, mt_ovl h.1 h.2 i1 i3⟩, by omega, by omega⟩
  · refine ⟨⟨?_, ?_⟩, ?_, mt_end h.1 h.2.1 h.2.2⟩
    · have := h.2.1
      unfold Btw at this
      unfold Ovl
      omega
    · have := h.2.2
      unfold Btw at this
      unfold Ovl
      omega
    · rw [h.1, Int.zero_mul]
      exact Int.le_refl _
  · refine ⟨⟨?_, ?_⟩, ?_, ?_⟩
    · have := h.2.1
      unfold Btw at this
      unfold Ovl
      omega
    · have := h.2.2
      unfold Btw at this
      unfold Ovl
      omega
    · rw [h.1, Int.mul_zero]
      exact Int.le_refl _
    · have := mt_end (dx := cx) (dy := cy) h.1 h.2.1 h.2.2
      rw [sw cx cy dx dy ax ay, sw cx cy dx dy bx bY] at this
      rw [Int.neg_mul_neg] at this
      exact this
  · refine ⟨⟨?_, ?_⟩, mt_end h.1 h.2.1 h.2.2, ?_⟩
    · have := h.2.1
      unfold Btw at this
      unfold Ovl
      omega
    · have := h.2.2
      unfold Btw at this
      unfold Ovl
      omega
    · rw [h.1, Int.zero_mul]
      exact Int.le_refl _
  · refine ⟨⟨?_, ?_⟩, ?_, ?_⟩
    · have := h.2.1
      unfold Btw at this
      unfold Ovl
      omega
    · have := h.2.2
      unfold Btw at this
      unfold Ovl
      omega
    · have := mt_end (dx := ax) (dy := ay) h.1 h.2.1 h.2.2
      rw [sw ax ay bx bY cx cy, sw ax ay bx bY dx dy] at this
      rw [Int.neg_mul_neg] at this
      exact this
    · rw [h.1, Int.mul_zero]
      exact Int.le_refl _
