/-! pictures: what they are -/
abbrev Pic : Type := Int → Int
def pcR (a : Pic) : Prop := ∀ q, 0 ≤ q → q < 1536 → -1 ≤ a q ∧ a q ≤ 16777215
def pcO (a b : Pic) : Pic := fun q => if a q = -1 then b q else a q
def pcS (a : Pic) (r d : Int) : Pic := fun q => if (0 ≤ q % 48 - r ∧ q % 48 - r ≤ 47) ∧ 0 ≤ q / 48 - d ∧ q / 48 - d ≤ 31 then a ((q / 48 - d) * 48 + (q % 48 - r)) else -1
def pcM (a b : Pic) : Pic := fun q => if b q = -1 then -1 else a q
def pk3 (r g b : Int) : Int := r * 65536 + g * 256 + b
def bl1 (a b s m : Int) : Int := rd (a * (m - s) + b * s) m
def bl3 (a b s m : Int) : Int := pk3 (bl1 (a / 65536 % 256) (b / 65536 % 256) s m) (bl1 (a / 256 % 256) (b / 256 % 256) s m) (bl1 (a % 256) (b % 256) s m)
def pcF (a b : Pic) (z m : Int) : Pic := fun q => if a q ≠ -1 ∧ b q ≠ -1 then bl3 (a q) (b q) (kpt z m) m else if 2 * kpt z m < m then a q else b q
/-- what a neighbour adds: 0 how many, 1 red, 2 green, 3 blue -/
def tmB (k : Nat) (a : Pic) (u v : Int) : Int := if ((0 ≤ u ∧ u ≤ 47) ∧ 0 ≤ v ∧ v ≤ 31) ∧ a (v * 48 + u) ≠ -1 then (if k = 0 then 1 else if k = 1 then a (v * 48 + u) / 65536 % 256 else if k = 2 then a (v * 48 + u) / 256 % 256 else a (v * 48 + u) % 256) else 0
def rsB (k : Nat) (a : Pic) (x v : Int) (i : Nat) : Int := acc (fun i => tmB k a (x - 1 + i) v) i
def tsB (k : Nat) (a : Pic) (x y : Int) (j : Nat) : Int := acc (fun j => rsB k a x (y - 1 + j) 3) j
def blr (a : Pic) (x y : Int) : Int := pk3 (rd (tsB 1 a x y 3) (tsB 0 a x y 3)) (rd (tsB 2 a x y 3) (tsB 0 a x y 3)) (rd (tsB 3 a x y 3) (tsB 0 a x y 3))
def pcB (a : Pic) : Pic := fun q => if a q = -1 then -1 else blr a (q % 48) (q / 48)
def spV (s k : Int) : Int := ush (hsh (J s) (J k) (J 1) (J 0) (J 0)) 8 % 17 - 8
def spW (s k : Int) : Int := ush (hsh (J s) (J k) (J 2) (J 0) (J 0)) 8 % 33 - 24
def spX (T : Int → Int) (f k : Int) : Int := T 1 + spV (T 0) k * (f - k) / 4
def spY (T : Int → Int) (f k : Int) : Int := T 2 + (spW (T 0) k * (f - k) + (f - k) * (f - k)) / 8
def spOb (T : Int → Int) (f k : Int) : Bool := decide ((0 ≤ f - k ∧ f - k ≤ 23) ∧ (0 ≤ spX T f k ∧ spX T f k ≤ 47) ∧ 0 ≤ spY T f k ∧ spY T f k ≤ 31)
def pcK (T : Int → Int) (f : Int) : Nat → Pic
  | 0 => fun _ => -1
  | k + 1 => if spOb T f k = true then upd1 (pcK T f k) (spY T f k * 48 + spX T f k) (T 4) else pcK T f k
def pcL (P : Pic) (pal : Int → Int) (D cx cy z : Int) : Pic := fun q => if ((0 ≤ plc 24 D cx z (q % 48) ∧ plc 24 D cx z (q % 48) ≤ 47) ∧ 0 ≤ plc 16 D cy z (q / 48) ∧ plc 16 D cy z (q / 48) ≤ 31) ∧ P (plc 16 D cy z (q / 48) * 48 + plc 24 D cx z (q % 48)) ≠ 0 then pal (P (plc 16 D cy z (q / 48) * 48 + plc 24 D cx z (q % 48))) else -1
/-- the picture of a node, by those of the nodes ahead of it -/
def wrk (L : Int → Int → Pic) (f k : Int) (T : Int → Int) (pr : Int → Pic) : Pic := if k = 0 then fun _ => T 0 else if k = 1 then L (T 0) (T 1) else if k = 2 then pcO (pr (T 0)) (pr (T 1)) else if k = 3 then pcS (pr (T 0)) (T 1) (T 2) else if k = 4 then pcM (pr (T 0)) (pr (T 1)) else if k = 5 then pcF (pr (T 0)) (pr (T 1)) (f - T 2) (T 3 - T 2) else if k = 6 then pcB (pr (T 0)) else pcK T f (T 3).toNat
def pct (L : Int → Int → Pic) (f : Int) (K : Int → Int) (T : Int → Int → Int) : Nat → Int → Pic
  | 0 => fun _ _ => -1
  | n + 1 => fun i => if i = n then wrk L f (K n) (T n) (pct L f K T n) else pct L f K T n i
/-- the picture of node i -/
def pcN (L : Int → Int → Pic) (f : Int) (K : Int → Int) (T : Int → Int → Int) (i : Int) : Pic := pct L f K T (i.toNat + 1) i
section PI
variable {L : Int → Int → Pic} {f m : Int} {K : Int → Int} {T : Int → Int → Int}
theorem pct_n {i : Int} (h : 0 ≤ i) : ∀ n : Nat, i < n → pct L f K T n i = pcN L f K T i := by
  intro n
  induction n with
  | zero => intro q; omega
  | succ n ih =>
    intro q
    by_cases e : i = n
    · unfold pcN
      rw [show i.toNat + 1 = n + 1 by omega]
    · show (if i = n then _ else pct L f K T n i) = _
      rw [if_neg e]
      exact ih (by omega)
theorem wrk_e {k : Int} {T0 : Int → Int} {p p' : Int → Pic} (h0 : p (T0 0) = p' (T0 0) ∨ ¬ (2 ≤ k ∧ k ≤ 6)) (h1 : p (T0 1) = p' (T0 1) ∨ ¬ (k = 2 ∨ k = 4 ∨ k = 5)) : wrk L f k T0 p = wrk L f k T0 p' := by
  unfold wrk
  by_cases c0 : k = 0
  · rw [if_pos c0, if_pos c0]
  rw [if_neg c0, if_neg c0]
  by_cases c1 : k = 1
  · rw [if_pos c1, if_pos c1]
  rw [if_neg c1, if_neg c1]
  by_cases c2 : k = 2
  · have e0 : p (T0 0) = p' (T0 0) := h0.resolve_right (fun z => z (by omega))
    have e1 : p (T0 1) = p' (T0 1) := h1.resolve_right (fun z => z (by omega))
    rw [e0, e1]
  rw [if_neg c2, if_neg c2]
  by_cases c3 : k = 3
  · have e0 : p (T0 0) = p' (T0 0) := h0.resolve_right (fun z => z (by omega))
    rw [e0]
    simp only [if_pos c3]
  rw [if_neg c3, if_neg c3]
  by_cases c4 : k = 4
  · have e0 : p (T0 0) = p' (T0 0) := h0.resolve_right (fun z => z (by omega))
    have e1 : p (T0 1) = p' (T0 1) := h1.resolve_right (fun z => z (by omega))
    rw [e0, e1]
  rw [if_neg c4, if_neg c4]
  by_cases c5 : k = 5
  · have e0 : p (T0 0) = p' (T0 0) := h0.resolve_right (fun z => z (by omega))
    have e1 : p (T0 1) = p' (T0 1) := h1.resolve_right (fun z => z (by omega))
    rw [e0, e1]
  rw [if_neg c5, if_neg c5]
  by_cases c6 : k = 6
  · have e0 : p (T0 0) = p' (T0 0) := h0.resolve_right (fun z => z (by omega))
    rw [e0]
  rw [if_neg c6, if_neg c6]
/-- by nodes ahead of it -/
theorem pcN_s {i : Int} (h : 0 ≤ i) (A : NA (K i) i (T i)) : pcN L f K T i = wrk L f (K i) (T i) (pcN L f K T) := by
  obtain ⟨_, _, a24, a3, a5, a6, _⟩ := A
  unfold pcN
  show (if i = ((i.toNat : Nat) : Int) then wrk L f (K (i.toNat : Int)) (T (i.toNat : Int)) (pct L f K T i.toNat) else _) = _
  rw [Int.toNat_of_nonneg h, if_pos rfl]
  refine wrk_e ?_ ?_
  · by_cases g : 2 ≤ K i ∧ K i ≤ 6
    · left
      refine pct_n ?_ _ ?_
      · rcases (show K i = 2 ∨ K i = 4 ∨ K i = 3 ∨ K i = 5 ∨ K i = 6 by omega) with e | e | e | e | e
        · exact (a24 (Or.inl e)).1.1
        · exact (a24 (Or.inr e)).1.1
        · exact (a3 e).1.1
        · exact (a5 e).1.1
        · exact (a6 e).1
      · have : T i 0 < i := by
          rcases (show K i = 2 ∨ K i = 4 ∨ K i = 3 ∨ K i = 5 ∨ K i = 6 by omega) with e | e | e | e | e
          · exact (a24 (Or.inl e)).1.2
          · exact (a24 (Or.inr e)).1.2
          · exact (a3 e).1.2
          · exact (a5 e).1.2
          · exact (a6 e).2
        omega
    · exact Or.inr g
  · by_cases g : K i = 2 ∨ K i = 4 ∨ K i = 5
    · left
      refine pct_n ?_ _ ?_
      · rcases g with e | e | e
        · exact (a24 (Or.inl e)).2.1
        · exact (a24 (Or.inr e)).2.1
        · exact (a5 e).2.1.1
      · have : T i 1 < i := by
          rcases g with e | e | e
          · exact (a24 (Or.inl e)).2.2
          · exact (a24 (Or.inr e)).2.2
          · exact (a5 e).2.1.2
        omega
    · exact Or.inr g
theorem pk3_r {r g b : Int} (hr : 0 ≤ r ∧ r ≤ 255) (hg : 0 ≤ g ∧ g ≤ 255) (hb : 0 ≤ b ∧ b ≤ 255) : 0 ≤ pk3 r g b ∧ pk3 r g b ≤ 16777215 := by
  unfold pk3
  omega
theorem bl1_r {a b s m : Int} (ha : 0 ≤ a ∧ a ≤ 255) (hb : 0 ≤ b ∧ b ≤ 255) (hs : 0 ≤ s ∧ s ≤ m) (hm : 1 ≤ m ∧ m ≤ 119) : (0 ≤ bl1 a b s m ∧ bl1 a b s m ≤ 255) ∧ 0 ≤ a * (m - s) + b * s ∧ a * (m - s) + b * s ≤ 255 * 119 := by
  have h1 := cvx2 ha hb hs
  have e : a * m + (b - a) * s = a * (m - s) + b * s := by grind
  rw [e] at h1
  exact ⟨rd_M (by omega) h1, by omega, by omega⟩
theorem bl3_r {a b s m : Int} (hs : 0 ≤ s ∧ s ≤ m) (hm : 1 ≤ m ∧ m ≤ 119) : 0 ≤ bl3 a b s m ∧ bl3 a b s m ≤ 16777215 := by
  unfold bl3
  exact pk3_r (bl1_r (by omega) (by omega) hs hm).1 (bl1_r (by omega) (by omega) hs hm).1 (bl1_r (by omega) (by omega) hs hm).1
theorem tmB_r (k : Nat) (a : Pic) (u v : Int) : 0 ≤ tmB k a u v ∧ tmB k a u v ≤ 255 * tmB 0 a u v ∧ 0 ≤ tmB 0 a u v ∧ tmB 0 a u v ≤ 1 := by
  unfold tmB
  by_cases g : ((0 ≤ u ∧ u ≤ 47) ∧ 0 ≤ v ∧ v ≤ 31) ∧ a (v * 48 + u) ≠ -1
  · rw [if_pos g, if_pos g, if_pos rfl]
    repeat' split
    all_goals omega
  · rw [if_neg g, if_neg g]
    omega
theorem rsB_r (k : Nat) (a : Pic) (x v : Int) : ∀ i : Nat, 0 ≤ rsB k a x v i ∧ rsB k a x v i ≤ 255 * rsB 0 a x v i ∧ 0 ≤ rsB 0 a x v i ∧ rsB 0 a x v i ≤ i := by
  intro i
  induction i with
  | zero => exact ⟨Int.le_refl _, by show (0 : Int) ≤ 255 * 0; omega, Int.le_refl _, Int.le_refl _⟩
  | succ i ih =>
    have t := tmB_r k a (x - 1 + i) v
    show 0 ≤ rsB k a x v i + tmB k a (x - 1 + i) v ∧ rsB k a x v i + tmB k a (x - 1 + i) v ≤ 255 * (rsB 0 a x v i + tmB 0 a (x - 1 + i) v) ∧ 0 ≤ rsB 0 a x v i + tmB 0 a (x - 1 + i) v ∧ rsB 0 a x v i + tmB 0 a (x - 1 + i) v ≤ _
    omega
theorem tsB_r (k : Nat) (a : Pic) (x y : Int) : ∀ j : Nat, 0 ≤ tsB k a x y j ∧ tsB k a x y j ≤ 255 * tsB 0 a x y j ∧ 0 ≤ tsB 0 a x y j ∧ tsB 0 a x y j ≤ 3 * j := by
  intro j
  induction j with
  | zero => exact ⟨Int.le_refl _, by show (0 : Int) ≤ 255 * 0; omega, Int.le_refl _, by show (0 : Int) ≤ 3 * 0; omega⟩
  | succ j ih =>
    have t := rsB_r k a x (y - 1 + j) 3
    show 0 ≤ tsB k a x y j + rsB k a x (y - 1 + j) 3 ∧ tsB k a x y j + rsB k a x (y - 1 + j) 3 ≤ 255 * (tsB 0 a x y j + rsB 0 a x (y - 1 + j) 3) ∧ 0 ≤ tsB 0 a x y j + rsB 0 a x (y - 1 + j) 3 ∧ tsB 0 a x y j + rsB 0 a x (y - 1 + j) 3 ≤ _
    omega
/-- the pixel itself counts -/
theorem tsB_p {a : Pic} {x y : Int} (hx : 0 ≤ x ∧ x ≤ 47) (hy : 0 ≤ y ∧ y ≤ 31) (ha : a (y * 48 + x) ≠ -1) : 1 ≤ tsB 0 a x y 3 := by
  have t0 := rsB_r 0 a x (y - 1 + ((0 : Nat) : Int)) 3
  have t2 := rsB_r 0 a x (y - 1 + ((2 : Nat) : Int)) 3
  have e : tsB 0 a x y 3 = 0 + rsB 0 a x (y - 1 + ((0 : Nat) : Int)) 3 + rsB 0 a x (y - 1 + ((1 : Nat) : Int)) 3 + rsB 0 a x (y - 1 + ((2 : Nat) : Int)) 3 := rfl
  have e1 : rsB 0 a x (y - 1 + ((1 : Nat) : Int)) 3 = 0 + tmB 0 a (x - 1 + ((0 : Nat) : Int)) (y - 1 + ((1 : Nat) : Int)) + tmB 0 a (x - 1 + ((1 : Nat) : Int)) (y - 1 + ((1 : Nat) : Int)) + tmB 0 a (x - 1 + ((2 : Nat) : Int)) (y - 1 + ((1 : Nat) : Int)) := rfl
  have u0 := tmB_r 0 a (x - 1 + ((0 : Nat) : Int)) (y - 1 + ((1 : Nat) : Int))
  have u2 := tmB_r 0 a (x - 1 + ((2 : Nat) : Int)) (y - 1 + ((1 : Nat) : Int))
  have u1 : tmB 0 a (x - 1 + ((1 : Nat) : Int)) (y - 1 + ((1 : Nat) : Int)) = 1 := by
    rw [show x - 1 + ((1 : Nat) : Int) = x by omega, show y - 1 + ((1 : Nat) : Int) = y by omega]
    unfold tmB
    rw [if_pos ⟨⟨hx, hy⟩, ha⟩, if_pos rfl]
  omega
theorem blr_r {a : Pic} {x y : Int} (hx : 0 ≤ x ∧ x ≤ 47) (hy : 0 ≤ y ∧ y ≤ 31) (ha : a (y * 48 + x) ≠ -1) : ((0 ≤ rd (tsB 1 a x y 3) (tsB 0 a x y 3) ∧ rd (tsB 1 a x y 3) (tsB 0 a x y 3) ≤ 255) ∧ (0 ≤ rd (tsB 2 a x y 3) (tsB 0 a x y 3) ∧ rd (tsB 2 a x y 3) (tsB 0 a x y 3) ≤ 255) ∧ 0 ≤ rd (tsB 3 a x y 3) (tsB 0 a x y 3) ∧ rd (tsB 3 a x y 3) (tsB 0 a x y 3) ≤ 255) ∧ 0 ≤ blr a x y ∧ blr a x y ≤ 16777215 := by
  have p := tsB_p hx hy ha
  have t := fun k => tsB_r k a x y 3
  have key := fun k => rd_M (x := tsB k a x y 3) (d := tsB 0 a x y 3) (M := 255) (by omega) ⟨(t k).1, (t k).2.1⟩
  exact ⟨⟨key 1, key 2, key 3⟩, pk3_r (key 1) (key 2) (key 3)⟩
theorem pcR_O {a b : Pic} (ha : pcR a) (hb : pcR b) : pcR (pcO a b)   := fun q q0 q1 => by
  unfold pcO
  split
  · exact hb q q0 q1
  · exact ha q q0 q1
theorem pcR_S {a : Pic} (ha : pcR a) (r d : Int) : pcR (pcS a r d)   := fun q q0 q1 => by
  unfold pcS
  split
  · exact ha _ (by omega) (by omega)
  · omega
theorem pcR_M {a b : Pic} (ha : pcR a) : pcR (pcM a b)   := fun q q0 q1 => by
  unfold pcM
  split
  · omega
  · exact ha q q0 q1
theorem pcR_F {a b : Pic} (ha : pcR a) (hb : pcR b) {z m : Int} (hm : 1 ≤ m ∧ m ≤ 119) : pcR (pcF a b z m)   := fun q q0 q1 => by
  have s := kpt_r z m (by omega)
  unfold pcF
  split
  · have := bl3_r (a := a q) (b := b q) s hm
    omega
  · split
    · exact ha q q0 q1
    · exact hb q q0 q1
theorem pcR_B {a : Pic} : pcR (pcB a) := fun q q0 q1 => by
  unfold pcB
  by_cases g : a q = -1
  · rw [if_pos g]
    omega
  · rw [if_neg g]
    have := (blr_r (a := a) (x := q % 48) (y := q / 48) (by omega) (by omega) (by rw [show q / 48 * 48 + q % 48 = q by omega]; exact g)).2
    omega
theorem pcR_K {T0 : Int → Int} (h : 0 ≤ T0 4 ∧ T0 4 ≤ 16777215) : ∀ k : Nat, pcR (pcK T0 f k) := by
  intro k
  induction k with
  | zero => exact fun q _ _ => ⟨Int.le_refl _, by show (-1 : Int) ≤ _; omega⟩
  | succ k ih =>
    intro q q0 q1
    show -1 ≤ (if spOb T0 f k = true then upd1 (pcK T0 f k) (spY T0 f k * 48 + spX T0 f k) (T0 4) else pcK T0 f k) q ∧ (if spOb T0 f k = true then upd1 (pcK T0 f k) (spY T0 f k * 48 + spX T0 f k) (T0 4) else pcK T0 f k) q ≤ _
    split
    · unfold upd1
      split
      · omega
      · exact ih q q0 q1
    · exact ih q q0 q1
/-- all pictures keep to their range -/
theorem pcN_r (hL : ∀ l p, pcR (L l p)) (A : ∀ i : Int, 0 ≤ i → i < m → NA (K i) i (T i)) (hK : ∀ i, 0 ≤ K i ∧ K i ≤ 7) : ∀ (n : Nat) (i : Int), 0 ≤ i → i < m → i < n → pcR (pcN L f K T i) := by
  intro n
  induction n with
  | zero => intro i h0 _ h2; omega
  | succ n ih =>
    intro i h0 h1 h2
    have a := A i h0 h1
    have ka := hK i
    rw [pcN_s h0 a]
    obtain ⟨a0, a1, a24, a3, a5, a6, a7⟩ := a
    unfold wrk
    by_cases c0 : K i = 0
    · rw [if_pos c0]
      have := a0 c0
      exact fun q _ _ => by dsimp only; omega
    rw [if_neg c0]
    by_cases c1 : K i = 1
    · rw [if_pos c1]
      exact hL _ _
    rw [if_neg c1]
    by_cases c2 : K i = 2
    · rw [if_pos c2]
      have := a24 (Or.inl c2)
      exact pcR_O (ih _ this.1.1 (by omega) (by omega)) (ih _ this.2.1 (by omega) (by omega))
    rw [if_neg c2]
    by_cases c3 : K i = 3
    · rw [if_pos c3]
      have := a3 c3
      exact pcR_S (ih _ this.1.1 (by omega) (by omega)) _ _
    rw [if_neg c3]
    by_cases c4 : K i = 4
    · rw [if_pos c4]
      have := a24 (Or.inr c4)
      exact pcR_M (ih _ this.1.1 (by omega) (by omega))
    rw [if_neg c4]
    by_cases c5 : K i = 5
    · rw [if_pos c5]
      have := a5 c5
      exact pcR_F (ih _ this.1.1 (by omega) (by omega)) (ih _ this.2.1.1 (by omega) (by omega)) (by omega)
    rw [if_neg c5]
    by_cases c6 : K i = 6
    · rw [if_pos c6]
      exact pcR_B
    rw [if_neg c6]
    have := a7 (by omega)
    exact pcR_K (by omega) _
end PI
