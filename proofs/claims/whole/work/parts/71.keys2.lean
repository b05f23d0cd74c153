/-! KEYS: the reference's, in order of their coming -/
def KE (K L : Kys) : Prop := L.1 = K.1 ∧ (∀ i, 0 ≤ i → i < K.1 → ∃ j, 0 ≤ j ∧ j < K.1 ∧ L.2.1 j = K.2.1 i ∧ L.2.2 j = K.2.2 i) ∧ (∀ j, 0 ≤ j → j < K.1 → ∃ i, 0 ≤ i ∧ i < K.1 ∧ K.2.1 i = L.2.1 j ∧ K.2.2 i = L.2.2 j) ∧ ∀ i j, 0 ≤ i → i < j → j < K.1 → L.2.1 i ≠ L.2.1 j
def KM (h : AHi) (fr va : Nat) (b : Int) (L : Kys) : Prop := ∀ j, 0 ≤ j → j < L.1 → gA h fr (b + j) = J (L.2.1 j) ∧ gA h va (b + j) = J (L.2.2 j)
def lput (K L : Kys) (f v : Int) : Kys := if kth K f = true then (L.1, L.2.1, fun i => if L.2.1 i = f then v else L.2.2 i) else (L.1 + 1, fun i => if i = L.1 then f else L.2.1 i, fun i => if i = L.1 then v else L.2.2 i)
def ldrp (L : Kys) (r : Int) : Kys := (L.1 - 1, fun i => if i < r then L.2.1 i else L.2.1 (i + 1), fun i => if i < r then L.2.2 i else L.2.2 (i + 1))
section KZ
variable {E : AEn} {h h' : AHi} {hr : AHr} {n : Nat} {Q : ARs → Prop} {cap : Nat} {K L : Kys} {lo hi f v o : Int}
theorem kah_u (R : KR cap lo hi K) {a : Int} (h0 : 0 ≤ a ∧ a ≤ K.1) (h1 : ∀ i, 0 ≤ i → i < a → K.2.1 i < f) (h2 : a < K.1 → f ≤ K.2.1 a) : kah K f = a := by
  have ka := kah_r R.1.1 f
  rcases Int.lt_trichotomy (kah K f) a with q | q | q
  · have e1 := h1 _ ka.1.1 q
    have e2 := ka.2.2 (by omega)
    omega
  · exact q
  · have e1 := ka.2.1 a h0.1 q
    have e2 := h2 (by omega)
    omega
theorem KE.r (e : KE K L) (R : KR cap lo hi K) : ∀ j, 0 ≤ j → j < K.1 → (0 ≤ L.2.1 j ∧ L.2.1 j ≤ 119) ∧ lo ≤ L.2.2 j ∧ L.2.2 j ≤ hi := fun j j0 j1 => by
  obtain ⟨i, i0, i1, i2, i3⟩ := e.2.2.1 j j0 j1
  rw [← i2, ← i3]
  exact R.2.1 i i0 i1
theorem kth_e (R : KR cap lo hi K) {i : Int} (i0 : 0 ≤ i) (i1 : i < K.1) (e : K.2.1 i = f) : kah K f = i ∧ kth K f = true := by
  have a : kah K f = i := kah_u R (by omega) (fun j j0 j1 => by have := R.2.2 j i j0 j1 i1; omega) (fun _ => by omega)
  exact ⟨a, decide_eq_true (by rw [a]; exact ⟨i1, e⟩)⟩
theorem kth_t (e : KE K L) (R : KR cap lo hi K) {j : Int} (j0 : 0 ≤ j) (j1 : j < K.1) (q : L.2.1 j = f) : kth K f = true := by
  obtain ⟨i, i0, i1, i2, i3⟩ := e.2.2.1 j j0 j1
  exact (kth_e R i0 i1 (i2.trans q)).2
theorem kth_f (e : KE K L) (R : KR cap lo hi K) (q : ∀ j, 0 ≤ j → j < K.1 → L.2.1 j ≠ f) : kth K f = false := by
  refine decide_eq_false (fun z => ?_)
  obtain ⟨j, j0, j1, j2, _⟩ := e.2.1 _ (kah_r R.1.1 f).1.1 z.1
  exact q j j0 j1 (j2.trans z.2)
theorem KE.put (e : KE K L) (R : KR cap lo hi K) : KE (kput K f v) (lput K L f v) := by
  obtain ⟨e0, e1, e2, e3⟩ := id e
  have ka := kah_r R.1.1 f
  unfold kput lput
  cases t : kth K f with
  | true =>
    have tt : kah K f < K.1 ∧ K.2.1 (kah K f) = f := of_decide_eq_true t
    have un : ∀ i, 0 ≤ i → i < K.1 → (K.2.1 i = f ↔ i = kah K f) := fun i i0 i1 => ⟨fun q => (kth_e R i0 i1 q).1.symm, fun q => by rw [q]; exact tt.2⟩
    rw [if_pos rfl, if_pos rfl]
    refine ⟨e0, fun i i0 i1 => ?_, fun j j0 j1 => ?_, e3⟩
    · obtain ⟨j, j0, j1, j2, j3⟩ := e1 i i0 i1
      refine ⟨j, j0, j1, j2, ?_⟩
      dsimp only
      by_cases q : i = kah K f
      · rw [if_pos q, if_pos (j2.trans ((un i i0 i1).mpr q))]
      · rw [if_neg q, if_neg (fun z => q ((un i i0 i1).mp (j2.symm.trans z)))]
        exact j3
    · obtain ⟨i, i0, i1, i2, i3⟩ := e2 j j0 j1
      refine ⟨i, i0, i1, i2, ?_⟩
      dsimp only
      by_cases q : i = kah K f
      · rw [if_pos q, if_pos (i2.symm.trans ((un i i0 i1).mpr q))]
      · rw [if_neg q, if_neg (fun z => q ((un i i0 i1).mp (i2.trans z)))]
        exact i3
  | false =>
    have nt : ∀ i, 0 ≤ i → i < K.1 → K.2.1 i ≠ f := fun i i0 i1 q => by
      have := (kth_e R i0 i1 q).2
      rw [t] at this
      cases this
    have ft : ¬ (false = true) := by decide
    rw [if_neg ft, if_neg ft]
    refine ⟨by show L.1 + 1 = K.1 + 1; omega, fun i i0 i1 => ?_, fun j j0 j1 => ?_, fun i j i0 i1 i2 => ?_⟩
    · have i2 : i < K.1 + 1 := i1
      dsimp only
      by_cases q1 : i < kah K f
      · obtain ⟨j, j0, j1, j2, j3⟩ := e1 i i0 (by omega)
        refine ⟨j, j0, by omega, ?_⟩
        rw [if_neg (show ¬ j = L.1 by omega), if_neg (show ¬ j = L.1 by omega), if_pos q1, if_pos q1]
        exact ⟨j2, j3⟩
      · by_cases q2 : i = kah K f
        · refine ⟨L.1, by omega, by omega, ?_⟩
          rw [if_pos rfl, if_pos rfl, if_neg q1, if_neg q1, if_pos q2, if_pos q2]
          exact ⟨rfl, rfl⟩
        · obtain ⟨j, j0, j1, j2, j3⟩ := e1 (i - 1) (by omega) (by omega)
          refine ⟨j, j0, by omega, ?_⟩
          rw [if_neg (show ¬ j = L.1 by omega), if_neg (show ¬ j = L.1 by omega), if_neg q1, if_neg q1, if_neg q2, if_neg q2]
          exact ⟨j2, j3⟩
    · have j2 : j < K.1 + 1 := j1
      dsimp only
      by_cases q1 : j = L.1
      · refine ⟨kah K f, ka.1.1, by omega, ?_⟩
        rw [if_pos q1, if_pos q1, if_neg (Int.lt_irrefl _), if_neg (Int.lt_irrefl _), if_pos rfl, if_pos rfl]
        exact ⟨rfl, rfl⟩
      · rw [if_neg q1, if_neg q1]
        obtain ⟨i, i0, i1, i2, i3⟩ := e2 j j0 (by omega)
        by_cases q2 : i < kah K f
        · refine ⟨i, i0, by omega, ?_⟩
          rw [if_pos q2, if_pos q2]
          exact ⟨i2, i3⟩
        · refine ⟨i + 1, by omega, by omega, ?_⟩
          rw [if_neg (show ¬ i + 1 < kah K f by omega), if_neg (show ¬ i + 1 < kah K f by omega), if_neg (show ¬ i + 1 = kah K f by omega), if_neg (show ¬ i + 1 = kah K f by omega), show i + 1 - 1 = i by omega]
          exact ⟨i2, i3⟩
    · have i3 : j < K.1 + 1 := i2
      dsimp only
      rw [if_neg (show ¬ i = L.1 by omega)]
      by_cases q1 : j = L.1
      · rw [if_pos q1]
        obtain ⟨m, m0, m1, m2, _⟩ := e2 i i0 (by omega)
        rw [← m2]
        exact nt m m0 m1
      · rw [if_neg q1]
        exact e3 i j i0 i1 (by omega)
theorem KE.drop (e : KE K L) (R : KR cap lo hi K) {r : Int} (r0 : 0 ≤ r) (r1 : r < K.1) (q : L.2.1 r = f) : KE (kdrop K f) (ldrp L r) := by
  obtain ⟨e0, e1, e2, e3⟩ := id e
  have ka := kah_r R.1.1 f
  have t := kth_t e R r0 r1 q
  have tt : kah K f < K.1 ∧ K.2.1 (kah K f) = f := of_decide_eq_true t
  have un : ∀ i, 0 ≤ i → i < K.1 → K.2.1 i = f → i = kah K f := fun i i0 i1 q => (kth_e R i0 i1 q).1.symm
  have uL : ∀ j, 0 ≤ j → j < K.1 → L.2.1 j = f → j = r := fun j j0 j1 z => by
    rcases Int.lt_trichotomy j r with y | y | y
    · exact absurd (z.trans q.symm) (e3 j r j0 y r1)
    · exact y
    · exact absurd (q.trans z.symm) (e3 r j r0 y j1)
  unfold kdrop ldrp
  rw [if_pos t]
  refine ⟨by show L.1 - 1 = K.1 - 1; omega, fun i i0 i1 => ?_, fun j j0 j1 => ?_, fun i j i0 i1 i2 => ?_⟩
  · have i2 : i < K.1 - 1 := i1
    dsimp only
    obtain ⟨m, hm0, hm1, hm2, hm3⟩ : ∃ m, 0 ≤ m ∧ m < K.1 ∧ m ≠ kah K f ∧ m = (if i < kah K f then i else i + 1) := by
      by_cases z : i < kah K f
      · exact ⟨i, i0, by omega, by omega, (if_pos z).symm⟩
      · exact ⟨i + 1, by omega, by omega, by omega, (if_neg z).symm⟩
    obtain ⟨j, j0, j1, j2, j3⟩ := e1 m hm0 hm1
    have jr : j ≠ r := fun z => hm2 (un m hm0 hm1 (by rw [← j2, z]; exact q))
    have s1 : (if i < kah K f then K.2.1 i else K.2.1 (i + 1)) = K.2.1 m := by rw [hm3]; split <;> rfl
    have s2 : (if i < kah K f then K.2.2 i else K.2.2 (i + 1)) = K.2.2 m := by rw [hm3]; split <;> rfl
    rw [s1, s2]
    by_cases z : j < r
    · refine ⟨j, j0, by omega, ?_⟩
      rw [if_pos z, if_pos z]
      exact ⟨j2, j3⟩
    · refine ⟨j - 1, by omega, by omega, ?_⟩
      rw [if_neg (show ¬ j - 1 < r by omega), if_neg (show ¬ j - 1 < r by omega), show j - 1 + 1 = j by omega]
      exact ⟨j2, j3⟩
  · have j2 : j < K.1 - 1 := j1
    dsimp only
    obtain ⟨m, hm0, hm1, hm2, hm3⟩ : ∃ m, 0 ≤ m ∧ m < K.1 ∧ m ≠ r ∧ m = (if j < r then j else j + 1) := by
      by_cases z : j < r
      · exact ⟨j, j0, by omega, by omega, (if_pos z).symm⟩
      · exact ⟨j + 1, by omega, by omega, by omega, (if_neg z).symm⟩
    obtain ⟨i, i0, i1, i2, i3⟩ := e2 m hm0 hm1
    have ir : i ≠ kah K f := fun z => hm2 (uL m hm0 hm1 (by rw [← i2, z]; exact tt.2))
    have s1 : (if j < r then L.2.1 j else L.2.1 (j + 1)) = L.2.1 m := by rw [hm3]; split <;> rfl
    have s2 : (if j < r then L.2.2 j else L.2.2 (j + 1)) = L.2.2 m := by rw [hm3]; split <;> rfl
    rw [s1, s2]
    by_cases z : i < kah K f
    · refine ⟨i, i0, by omega, ?_⟩
      rw [if_pos z, if_pos z]
      exact ⟨i2, i3⟩
    · refine ⟨i - 1, by omega, by omega, ?_⟩
      rw [if_neg (show ¬ i - 1 < kah K f by omega), if_neg (show ¬ i - 1 < kah K f by omega), show i - 1 + 1 = i by omega]
      exact ⟨i2, i3⟩
  · have i3 : j < K.1 - 1 := i2
    dsimp only
    by_cases z : i < r
    · rw [if_pos z]
      by_cases y : j < r
      · rw [if_pos y]
        exact e3 i j i0 i1 (by omega)
      · rw [if_neg y]
        exact e3 i (j + 1) i0 (by omega) (by omega)
    · rw [if_neg z, if_neg (show ¬ j < r by omega)]
      exact e3 (i + 1) (j + 1) (by omega) (by omega) (by omega)
/-! what lies about a frame -/
def Bf (L : Kys) (f b : Int) (j B : Int) : Prop := (B = -1 ∧ ∀ i, 0 ≤ i → i < j → ¬ L.2.1 i ≤ f) ∨ ∃ t, B = b + t ∧ 0 ≤ t ∧ t < j ∧ L.2.1 t ≤ f ∧ ∀ i, 0 ≤ i → i < j → L.2.1 i ≤ f → L.2.1 i ≤ L.2.1 t
def Bh (L : Kys) (f b : Int) (j B : Int) : Prop := (B = -1 ∧ ∀ i, 0 ≤ i → i < j → ¬ f ≤ L.2.1 i) ∨ ∃ t, B = b + t ∧ 0 ≤ t ∧ t < j ∧ f ≤ L.2.1 t ∧ ∀ i, 0 ≤ i → i < j → f ≤ L.2.1 i → L.2.1 t ≤ L.2.1 i
theorem kv1 (R : KR cap lo hi K) (hB : ∀ i, 0 ≤ i → i < K.1 → ¬ L.2.1 i ≤ f) (hH : ∀ i, 0 ≤ i → i < K.1 → ¬ f ≤ L.2.1 i) : kval K f o = o := by
  have m0 : K.1 = 0 := by
    rcases (show K.1 = 0 ∨ 0 < K.1 by have := R.1; omega) with q | q
    · exact q
    · have h1 := hB 0 (by omega) q
      have h2 := hH 0 (by omega) q
      omega
  unfold kval
  rw [if_pos m0]
theorem kv2 (e : KE K L) (R : KR cap lo hi K) (hB : ∀ i, 0 ≤ i → i < K.1 → ¬ L.2.1 i ≤ f) {u : Int} (u0 : 0 ≤ u) (u1 : u < K.1) (u2 : f ≤ L.2.1 u) (u3 : ∀ i, 0 ≤ i → i < K.1 → f ≤ L.2.1 i → L.2.1 u ≤ L.2.1 i) : kval K f o = L.2.2 u := by
  obtain ⟨i, i0, i1, i2, i3⟩ := e.2.2.1 u u0 u1
  obtain ⟨j, j0, j1, j2, j3⟩ := e.2.1 0 (by omega) (by omega)
  have q1 := hB j j0 j1
  have q2 := u3 j j0 j1 (by omega)
  have iz : i = 0 := by
    rcases (show i = 0 ∨ 0 < i by omega) with q | q
    · exact q
    · have := R.2.2 0 i (by omega) q i1
      omega
  subst iz
  have a : kah K f = 0 := kah_u R (by omega) (fun i _ _ => by omega) (fun _ => by omega)
  unfold kval
  rw [if_neg (by omega), a, if_neg (by omega), if_pos (Or.inl rfl)]
  exact i3
theorem kv3 (e : KE K L) (R : KR cap lo hi K) {t : Int} (t0 : 0 ≤ t) (t1 : t < K.1) (t3 : ∀ i, 0 ≤ i → i < K.1 → L.2.1 i ≤ f → L.2.1 i ≤ L.2.1 t) (hH : ∀ i, 0 ≤ i → i < K.1 → ¬ f ≤ L.2.1 i) : kval K f o = L.2.2 t := by
  obtain ⟨i, i0, i1, i2, i3⟩ := e.2.2.1 t t0 t1
  obtain ⟨j, j0, j1, j2, j3⟩ := e.2.1 (K.1 - 1) (by omega) (by omega)
  have q1 := hH j j0 j1
  have q2 := t3 j j0 j1 (by omega)
  have iz : i = K.1 - 1 := by
    rcases (show i = K.1 - 1 ∨ i < K.1 - 1 by omega) with q | q
    · exact q
    · have := R.2.2 i (K.1 - 1) i0 q (by omega)
      omega
  have a : kah K f = K.1 := kah_u R (by omega) (fun m m0 m1 => by
    obtain ⟨y, y0, y1, y2, _⟩ := e.2.1 m m0 m1
    have := hH y y0 y1
    omega) (fun q => by omega)
  unfold kval
  rw [if_neg (by omega), if_pos a, ← iz]
  exact i3
theorem kv4 (e : KE K L) (R : KR cap lo hi K) {t : Int} (t0 : 0 ≤ t) (t1 : t < K.1) (t2 : L.2.1 t = f) : kval K f o = L.2.2 t := by
  obtain ⟨i, i0, i1, i2, i3⟩ := e.2.2.1 t t0 t1
  have a := (kth_e R i0 i1 (i2.trans t2)).1
  unfold kval
  rw [if_neg (by omega), a, if_neg (by omega), if_pos (Or.inr (i2.trans t2))]
  exact i3
theorem kv5 (e : KE K L) (R : KR cap lo hi K) {t u : Int} (t0 : 0 ≤ t) (t1 : t < K.1) (t2 : L.2.1 t ≤ f) (t3 : ∀ i, 0 ≤ i → i < K.1 → L.2.1 i ≤ f → L.2.1 i ≤ L.2.1 t) (u0 : 0 ≤ u) (u1 : u < K.1) (u2 : f ≤ L.2.1 u) (u3 : ∀ i, 0 ≤ i → i < K.1 → f ≤ L.2.1 i → L.2.1 u ≤ L.2.1 i) (tu : t ≠ u) : kval K f o = L.2.2 t + rd ((L.2.2 u - L.2.2 t) * (f - L.2.1 t)) (L.2.1 u - L.2.1 t) ∧ L.2.1 t < L.2.1 u := by
  have ne : L.2.1 t ≠ L.2.1 u := by
    rcases Int.lt_trichotomy t u with q | q | q
    · exact e.2.2.2 t u t0 q u1
    · exact absurd q tu
    · exact (e.2.2.2 u t u0 q t1).symm
  have x1 := t3 u u0 u1
  have x2 := u3 t t0 t1
  obtain ⟨i, i0, i1, i2, i3⟩ := e.2.2.1 t t0 t1
  obtain ⟨j, j0, j1, j2, j3⟩ := e.2.2.1 u u0 u1
  have lt : L.2.1 t < f ∧ f < L.2.1 u := by omega
  have ij : i < j := by
    rcases Int.lt_trichotomy i j with q | q | q
    · exact q
    · rw [q] at i2
      omega
    · have := R.2.2 j i j0 q i1
      omega
  have j4 : j = i + 1 := by
    rcases (show j = i + 1 ∨ i + 1 < j by omega) with q | q
    · exact q
    · obtain ⟨y, y0, y1, y2, _⟩ := e.2.1 (i + 1) (by omega) (by omega)
      have z1 := R.2.2 i (i + 1) i0 (by omega) (by omega)
      have z2 := R.2.2 (i + 1) j (by omega) q j1
      have z3 := t3 y y0 y1
      have z4 := u3 y y0 y1
      omega
  have a : kah K f = j := kah_u R (by omega) (fun m m0 m1 => by
    rcases (show m = i ∨ m < i by omega) with q | q
    · rw [q]
      omega
    · have := R.2.2 m i m0 q i1
      omega) (fun _ => by omega)
  refine ⟨?_, by omega⟩
  unfold kval
  rw [if_neg (by omega), a, if_neg (by omega), if_neg (by omega), show j - 1 = i by omega, i2, i3, j2, j3]
set_option maxHeartbeats 4000000 in
theorem w292 (hn : 775 ≤ n) {fr va : Nat} {b : Int} (hfr : a_kd fr = 20 ∧ 43 ≤ fr ∧ fr < 775) (hva : a_kd va = 20 ∧ 43 ≤ va ∧ va < 775) (hb : 0 ≤ b) (l1 : b + K.1 ≤ a_ln E fr ∧ a_ln E fr ≤ 1000) (l2 : b + K.1 ≤ a_ln E va ∧ a_ln E va ≤ 1000) (R : KR cap lo hi K) (hcap : cap ≤ 8) (hlo : -400 ≤ lo ∧ hi ≤ 400) (e : KE K L) (M : KM h fr va b L) (hf : 0 ≤ f ∧ f ≤ 119)
    (k : Q (some (.int (J (kval K f o))), h, hr, n)) : Sp E 292 [.ref fr, .ref va, .int (J b), .int (J L.1), .int (J f), .int (J o)] h hr n Q := by
  have e0 := e.1
  have r1 := R.1
  rw [e0]
  have LR := e.r R
  have lf : fr < n := by omega
  have lv : va < n := by omega
  simp +decide (maxSteps := 4000000) (disch := omega) only [k292_0, k292_2, k292_3, k292_4, k292_5, k292_6, k292_7, k292_8, k292_9, k292_10, k292_r, k292_s, T_I, F_is6i, F_is6r, F_is6m, F_is7i, F_is7r, F_is7m, F_il2, F_is8i, F_is8r, F_is8m, T_ft, F_il8, F_il3, T_add, T_icge, F_al0, X_iald, F_il4, T_icgt, F_il6, J_iflt, T_icle, T_iclt, F_il7, F_inc8i, F_inc8r, F_inc8m, T_goto, J_ifge, F_il5, T_ret, F_al1, J_icne, T_sub, T_i2l, T_mulL, c243, ↓s243, ↓reduceIte, TK, lt_run hn, le43, Int.le_refl, Int.lt_irrefl, Option.some.injEq, exists_eq_left', true_and, and_true, if_true, if_false, decide_eq_false_iff_not, decide_eq_true_eq, Nat.reduceAdd, Nat.reduceLeDiff, Nat.reduceLT, Int.reduceAdd, Int.reduceSub, Int.reduceMul, Int.reduceNeg, not_true_eq_false, not_false_eq_true]
  refine T_for (σ := Int × Int) (fun kk s => [.ref fr, .ref va, .int (J b), .int (J K.1), .int (J f), .int (J o), .int (J s.1), .int (J s.2), .int (J kk)]) (fun kk s h' => h' = h ∧ Bf L f b (kk - b) s.1 ∧ Bh L f b (kk - b) s.2) b (b + K.1) ?_ ?_ b (-1, -1) h (by omega) (by omega) ⟨rfl, Or.inl ⟨rfl, fun i _ _ => by omega⟩, Or.inl ⟨rfl, fun i _ _ => by omega⟩⟩
  · rintro kk ⟨B, H⟩ h' k0 k1 ⟨rfl, hB, hH⟩ ih
    dsimp only at hB hH ⊢
    obtain ⟨j, hj⟩ : ∃ j, kk = b + j := ⟨kk - b, by omega⟩
    subst hj
    rw [show b + j - b = j by omega] at hB hH
    have mj := (M j (by omega) (by omega)).1
    have rj := (LR j (by omega) (by omega)).1
    have go5 : ∀ B' H', Bf L f b (j + 1) B' → Bh L f b (j + 1) H' → Tm E 292 (a_bl 292 5) [.ref fr, .ref va, .int (J b), .int (J K.1), .int (J f), .int (J o), .int (J B'), .int (J H'), .int (J (b + j))] [] h' hr n Q := fun B' H' q1 q2 => by
      rw [k292_5]
      simp +decide (maxSteps := 4000000) (disch := omega) only [k292_0, k292_2, k292_3, k292_4, k292_5, k292_6, k292_7, k292_8, k292_9, k292_10, k292_r, k292_s, T_I, F_is6i, F_is6r, F_is6m, F_is7i, F_is7r, F_is7m, F_il2, F_is8i, F_is8r, F_is8m, T_ft, F_il8, F_il3, T_add, T_icge, F_al0, X_iald, F_il4, T_icgt, F_il6, J_iflt, T_icle, T_iclt, F_il7, F_inc8i, F_inc8r, F_inc8m, T_goto, J_ifge, F_il5, T_ret, F_al1, J_icne, T_sub, T_i2l, T_mulL, c243, ↓s243, ↓reduceIte, TK, lt_run hn, le43, Int.le_refl, Int.lt_irrefl, Option.some.injEq, exists_eq_left', true_and, and_true, if_true, if_false, decide_eq_false_iff_not, decide_eq_true_eq, Nat.reduceAdd, Nat.reduceLeDiff, Nat.reduceLT, Int.reduceAdd, Int.reduceSub, Int.reduceMul, Int.reduceNeg, not_true_eq_false, not_false_eq_true]
      exact ih (B', H') h' ⟨rfl, by rw [show b + j + 1 - b = j + 1 by omega]; exact q1, by rw [show b + j + 1 - b = j + 1 by omega]; exact q2⟩
    have go3 : ∀ B', Bf L f b (j + 1) B' → Tm E 292 (a_bl 292 3) [.ref fr, .ref va, .int (J b), .int (J K.1), .int (J f), .int (J o), .int (J B'), .int (J H), .int (J (b + j))] [] h' hr n Q := fun B' q1 => by
      have old : ¬ f ≤ L.2.1 j → Bh L f b (j + 1) H := fun z => by
        rcases hH with ⟨y1, y2⟩ | ⟨t, y1, y2, y3, y4, y5⟩
        · refine Or.inl ⟨y1, fun i i0 i1 => ?_⟩
          rcases (show i < j ∨ i = j by omega) with x | x
          · exact y2 i i0 x
          · rw [x]
            exact z
        · refine Or.inr ⟨t, y1, y2, by omega, y4, fun i i0 i1 i2 => ?_⟩
          rcases (show i < j ∨ i = j by omega) with x | x
          · exact y5 i i0 x i2
          · rw [x] at i2
            exact absurd i2 z
      have new : f ≤ L.2.1 j → (∀ i, 0 ≤ i → i < j → f ≤ L.2.1 i → L.2.1 j ≤ L.2.1 i) → Bh L f b (j + 1) (b + j) := fun z y => by
        refine Or.inr ⟨j, rfl, by omega, by omega, z, fun i i0 i1 i2 => ?_⟩
        rcases (show i < j ∨ i = j by omega) with x | x
        · exact y i i0 x i2
        · rw [x]
          exact Int.le_refl _
      rw [k292_3]
      by_cases z : f ≤ L.2.1 j
      case neg =>
        have g5 := go5 B' H q1 (old z)
        simp +decide (maxSteps := 4000000) (disch := omega) only [k292_0, k292_2, k292_3, k292_4, k292_6, k292_7, k292_8, k292_9, k292_10, k292_r, k292_s, T_I, F_is6i, F_is6r, F_is6m, F_is7i, F_is7r, F_is7m, F_il2, F_is8i, F_is8r, F_is8m, T_ft, F_il8, F_il3, T_add, T_icge, F_al0, X_iald, F_il4, T_icgt, F_il6, J_iflt, T_icle, T_iclt, F_il7, F_inc8i, F_inc8r, F_inc8m, T_goto, J_ifge, F_il5, T_ret, F_al1, J_icne, T_sub, T_i2l, T_mulL, c243, ↓s243, hfr, lf, mj, show L.2.1 j < f by omega, ↓reduceIte, TK, lt_run hn, le43, Int.le_refl, Int.lt_irrefl, Option.some.injEq, exists_eq_left', true_and, and_true, if_true, if_false, decide_eq_false_iff_not, decide_eq_true_eq, Nat.reduceAdd, Nat.reduceLeDiff, Nat.reduceLT, Int.reduceAdd, Int.reduceSub, Int.reduceMul, Int.reduceNeg, not_true_eq_false, not_false_eq_true]
        exact g5
      rcases hH with ⟨y1, y2⟩ | ⟨t, y1, y2, y3, y4, y5⟩
      · have g5 := go5 B' (b + j) q1 (new z (fun i i0 i1 i2 => absurd i2 (y2 i i0 i1)))
        subst y1
        simp +decide (maxSteps := 4000000) (disch := omega) only [k292_0, k292_2, k292_3, k292_4, k292_6, k292_7, k292_8, k292_9, k292_10, k292_r, k292_s, T_I, F_is6i, F_is6r, F_is6m, F_is7i, F_is7r, F_is7m, F_il2, F_is8i, F_is8r, F_is8m, T_ft, F_il8, F_il3, T_add, T_icge, F_al0, X_iald, F_il4, T_icgt, F_il6, J_iflt, T_icle, T_iclt, F_il7, F_inc8i, F_inc8r, F_inc8m, T_goto, J_ifge, F_il5, T_ret, F_al1, J_icne, T_sub, T_i2l, T_mulL, c243, ↓s243, hfr, lf, mj, show ¬ L.2.1 j < f by omega, ↓reduceIte, TK, lt_run hn, le43, Int.le_refl, Int.lt_irrefl, Option.some.injEq, exists_eq_left', true_and, and_true, if_true, if_false, decide_eq_false_iff_not, decide_eq_true_eq, Nat.reduceAdd, Nat.reduceLeDiff, Nat.reduceLT, Int.reduceAdd, Int.reduceSub, Int.reduceMul, Int.reduceNeg, not_true_eq_false, not_false_eq_true]
        exact g5
      · subst y1
        have mt := (M t (by omega) (by omega)).1
        have rt := (LR t (by omega) (by omega)).1
        by_cases x : L.2.1 t ≤ L.2.1 j
        · have g5 := go5 B' (b + t) q1 (Or.inr ⟨t, rfl, y2, by omega, y4, fun i i0 i1 i2 => by
            rcases (show i < j ∨ i = j by omega) with x' | x'
            · exact y5 i i0 x' i2
            · rw [x']
              exact x⟩)
          simp +decide (maxSteps := 4000000) (disch := omega) only [k292_0, k292_2, k292_3, k292_4, k292_6, k292_7, k292_8, k292_9, k292_10, k292_r, k292_s, T_I, F_is6i, F_is6r, F_is6m, F_is7i, F_is7r, F_is7m, F_il2, F_is8i, F_is8r, F_is8m, T_ft, F_il8, F_il3, T_add, T_icge, F_al0, X_iald, F_il4, T_icgt, F_il6, J_iflt, T_icle, T_iclt, F_il7, F_inc8i, F_inc8r, F_inc8m, T_goto, J_ifge, F_il5, T_ret, F_al1, J_icne, T_sub, T_i2l, T_mulL, c243, ↓s243, hfr, lf, mj, mt, show ¬ L.2.1 j < f by omega, show ¬ b + t < 0 by omega, x, ↓reduceIte, TK, lt_run hn, le43, Int.le_refl, Int.lt_irrefl, Option.some.injEq, exists_eq_left', true_and, and_true, if_true, if_false, decide_eq_false_iff_not, decide_eq_true_eq, Nat.reduceAdd, Nat.reduceLeDiff, Nat.reduceLT, Int.reduceAdd, Int.reduceSub, Int.reduceMul, Int.reduceNeg, not_true_eq_false, not_false_eq_true]
          exact g5
        · have g5 := go5 B' (b + j) q1 (new z (fun i i0 i1 i2 => by have := y5 i i0 i1 i2; omega))
          simp +decide (maxSteps := 4000000) (disch := omega) only [k292_0, k292_2, k292_3, k292_4, k292_6, k292_7, k292_8, k292_9, k292_10, k292_r, k292_s, T_I, F_is6i, F_is6r, F_is6m, F_is7i, F_is7r, F_is7m, F_il2, F_is8i, F_is8r, F_is8m, T_ft, F_il8, F_il3, T_add, T_icge, F_al0, X_iald, F_il4, T_icgt, F_il6, J_iflt, T_icle, T_iclt, F_il7, F_inc8i, F_inc8r, F_inc8m, T_goto, J_ifge, F_il5, T_ret, F_al1, J_icne, T_sub, T_i2l, T_mulL, c243, ↓s243, hfr, lf, mj, mt, show ¬ L.2.1 j < f by omega, show ¬ b + t < 0 by omega, x, ↓reduceIte, TK, lt_run hn, le43, Int.le_refl, Int.lt_irrefl, Option.some.injEq, exists_eq_left', true_and, and_true, if_true, if_false, decide_eq_false_iff_not, decide_eq_true_eq, Nat.reduceAdd, Nat.reduceLeDiff, Nat.reduceLT, Int.reduceAdd, Int.reduceSub, Int.reduceMul, Int.reduceNeg, not_true_eq_false, not_false_eq_true]
          exact g5
    have old : ¬ L.2.1 j ≤ f → Bf L f b (j + 1) B := fun z => by
      rcases hB with ⟨y1, y2⟩ | ⟨t, y1, y2, y3, y4, y5⟩
      · refine Or.inl ⟨y1, fun i i0 i1 => ?_⟩
        rcases (show i < j ∨ i = j by omega) with x | x
        · exact y2 i i0 x
        · rw [x]
          exact z
      · refine Or.inr ⟨t, y1, y2, by omega, y4, fun i i0 i1 i2 => ?_⟩
        rcases (show i < j ∨ i = j by omega) with x | x
        · exact y5 i i0 x i2
        · rw [x] at i2
          exact absurd i2 z
    have new : L.2.1 j ≤ f → (∀ i, 0 ≤ i → i < j → L.2.1 i ≤ f → L.2.1 i ≤ L.2.1 j) → Bf L f b (j + 1) (b + j) := fun z y => by
      refine Or.inr ⟨j, rfl, by omega, by omega, z, fun i i0 i1 i2 => ?_⟩
      rcases (show i < j ∨ i = j by omega) with x | x
      · exact y i i0 x i2
      · rw [x]
        exact Int.le_refl _
    by_cases z : L.2.1 j ≤ f
    case neg =>
      have g3 := go3 B (old z)
      rw [k292_1]
      simp +decide (maxSteps := 4000000) (disch := omega) only [k292_0, k292_2, k292_4, k292_5, k292_6, k292_7, k292_8, k292_9, k292_10, k292_r, k292_s, T_I, F_is6i, F_is6r, F_is6m, F_is7i, F_is7r, F_is7m, F_il2, F_is8i, F_is8r, F_is8m, T_ft, F_il8, F_il3, T_add, T_icge, F_al0, X_iald, F_il4, T_icgt, F_il6, J_iflt, T_icle, T_iclt, F_il7, F_inc8i, F_inc8r, F_inc8m, T_goto, J_ifge, F_il5, T_ret, F_al1, J_icne, T_sub, T_i2l, T_mulL, c243, ↓s243, hfr, lf, mj, show f < L.2.1 j by omega, show ¬ b + K.1 ≤ b + j by omega, ↓reduceIte, TK, lt_run hn, le43, Int.le_refl, Int.lt_irrefl, Option.some.injEq, exists_eq_left', true_and, and_true, if_true, if_false, decide_eq_false_iff_not, decide_eq_true_eq, Nat.reduceAdd, Nat.reduceLeDiff, Nat.reduceLT, Int.reduceAdd, Int.reduceSub, Int.reduceMul, Int.reduceNeg, not_true_eq_false, not_false_eq_true]
      exact g3
    rcases hB with ⟨y1, y2⟩ | ⟨t, y1, y2, y3, y4, y5⟩
    · have g3 := go3 (b + j) (new z (fun i i0 i1 i2 => absurd i2 (y2 i i0 i1)))
      subst y1
      rw [k292_1]
      simp +decide (maxSteps := 4000000) (disch := omega) only [k292_0, k292_2, k292_4, k292_5, k292_6, k292_7, k292_8, k292_9, k292_10, k292_r, k292_s, T_I, F_is6i, F_is6r, F_is6m, F_is7i, F_is7r, F_is7m, F_il2, F_is8i, F_is8r, F_is8m, T_ft, F_il8, F_il3, T_add, T_icge, F_al0, X_iald, F_il4, T_icgt, F_il6, J_iflt, T_icle, T_iclt, F_il7, F_inc8i, F_inc8r, F_inc8m, T_goto, J_ifge, F_il5, T_ret, F_al1, J_icne, T_sub, T_i2l, T_mulL, c243, ↓s243, hfr, lf, mj, show ¬ f < L.2.1 j by omega, show ¬ b + K.1 ≤ b + j by omega, ↓reduceIte, TK, lt_run hn, le43, Int.le_refl, Int.lt_irrefl, Option.some.injEq, exists_eq_left', true_and, and_true, if_true, if_false, decide_eq_false_iff_not, decide_eq_true_eq, Nat.reduceAdd, Nat.reduceLeDiff, Nat.reduceLT, Int.reduceAdd, Int.reduceSub, Int.reduceMul, Int.reduceNeg, not_true_eq_false, not_false_eq_true]
      exact g3
    · subst y1
      have mt := (M t (by omega) (by omega)).1
      have rt := (LR t (by omega) (by omega)).1
      by_cases x : L.2.1 j ≤ L.2.1 t
      · have g3 := go3 (b + t) (Or.inr ⟨t, rfl, y2, by omega, y4, fun i i0 i1 i2 => by
          rcases (show i < j ∨ i = j by omega) with x' | x'
          · exact y5 i i0 x' i2
          · rw [x']
            exact x⟩)
        rw [k292_1]
        simp +decide (maxSteps := 4000000) (disch := omega) only [k292_0, k292_2, k292_4, k292_5, k292_6, k292_7, k292_8, k292_9, k292_10, k292_r, k292_s, T_I, F_is6i, F_is6r, F_is6m, F_is7i, F_is7r, F_is7m, F_il2, F_is8i, F_is8r, F_is8m, T_ft, F_il8, F_il3, T_add, T_icge, F_al0, X_iald, F_il4, T_icgt, F_il6, J_iflt, T_icle, T_iclt, F_il7, F_inc8i, F_inc8r, F_inc8m, T_goto, J_ifge, F_il5, T_ret, F_al1, J_icne, T_sub, T_i2l, T_mulL, c243, ↓s243, hfr, lf, mj, mt, show ¬ f < L.2.1 j by omega, show ¬ b + K.1 ≤ b + j by omega, show ¬ b + t < 0 by omega, x, ↓reduceIte, TK, lt_run hn, le43, Int.le_refl, Int.lt_irrefl, Option.some.injEq, exists_eq_left', true_and, and_true, if_true, if_false, decide_eq_false_iff_not, decide_eq_true_eq, Nat.reduceAdd, Nat.reduceLeDiff, Nat.reduceLT, Int.reduceAdd, Int.reduceSub, Int.reduceMul, Int.reduceNeg, not_true_eq_false, not_false_eq_true]
        exact g3
      · have g3 := go3 (b + j) (new z (fun i i0 i1 i2 => by have := y5 i i0 i1 i2; omega))
        rw [k292_1]
        simp +decide (maxSteps := 4000000) (disch := omega) only [k292_0, k292_2, k292_4, k292_5, k292_6, k292_7, k292_8, k292_9, k292_10, k292_r, k292_s, T_I, F_is6i, F_is6r, F_is6m, F_is7i, F_is7r, F_is7m, F_il2, F_is8i, F_is8r, F_is8m, T_ft, F_il8, F_il3, T_add, T_icge, F_al0, X_iald, F_il4, T_icgt, F_il6, J_iflt, T_icle, T_iclt, F_il7, F_inc8i, F_inc8r, F_inc8m, T_goto, J_ifge, F_il5, T_ret, F_al1, J_icne, T_sub, T_i2l, T_mulL, c243, ↓s243, hfr, lf, mj, mt, show ¬ f < L.2.1 j by omega, show ¬ b + K.1 ≤ b + j by omega, show ¬ b + t < 0 by omega, x, ↓reduceIte, TK, lt_run hn, le43, Int.le_refl, Int.lt_irrefl, Option.some.injEq, exists_eq_left', true_and, and_true, if_true, if_false, decide_eq_false_iff_not, decide_eq_true_eq, Nat.reduceAdd, Nat.reduceLeDiff, Nat.reduceLT, Int.reduceAdd, Int.reduceSub, Int.reduceMul, Int.reduceNeg, not_true_eq_false, not_false_eq_true]
        exact g3
  · rintro ⟨B, H⟩ h' ⟨rfl, hB, hH⟩
    dsimp only at hB hH ⊢
    rw [show b + K.1 - b = K.1 by omega] at hB hH
    rcases hB with ⟨y1, y2⟩ | ⟨t, y1, y2, y3, y4, y5⟩
    · subst y1
      rcases hH with ⟨x1, x2⟩ | ⟨u, x1, x2, x3, x4, x5⟩
      · subst x1
        rw [kv1 R y2 x2] at k
        rw [k292_1]
        simp +decide (maxSteps := 4000000) (disch := omega) only [k292_0, k292_2, k292_3, k292_4, k292_5, k292_6, k292_7, k292_8, k292_9, k292_10, k292_r, k292_s, T_I, F_is6i, F_is6r, F_is6m, F_is7i, F_is7r, F_is7m, F_il2, F_is8i, F_is8r, F_is8m, T_ft, F_il8, F_il3, T_add, T_icge, F_al0, X_iald, F_il4, T_icgt, F_il6, J_iflt, T_icle, T_iclt, F_il7, F_inc8i, F_inc8r, F_inc8m, T_goto, J_ifge, F_il5, T_ret, F_al1, J_icne, T_sub, T_i2l, T_mulL, c243, ↓s243, hfr, lf, ↓reduceIte, TK, lt_run hn, le43, Int.le_refl, Int.lt_irrefl, Option.some.injEq, exists_eq_left', true_and, and_true, if_true, if_false, decide_eq_false_iff_not, decide_eq_true_eq, Nat.reduceAdd, Nat.reduceLeDiff, Nat.reduceLT, Int.reduceAdd, Int.reduceSub, Int.reduceMul, Int.reduceNeg, not_true_eq_false, not_false_eq_true]
        exact k
      · subst x1
        rw [kv2 e R y2 x2 x3 x4 x5] at k
        have mu := (M u x2 (by omega)).2
        rw [k292_1]
        simp +decide (maxSteps := 4000000) (disch := omega) only [k292_0, k292_2, k292_3, k292_4, k292_5, k292_6, k292_7, k292_8, k292_9, k292_10, k292_r, k292_s, T_I, F_is6i, F_is6r, F_is6m, F_is7i, F_is7r, F_is7m, F_il2, F_is8i, F_is8r, F_is8m, T_ft, F_il8, F_il3, T_add, T_icge, F_al0, X_iald, F_il4, T_icgt, F_il6, J_iflt, T_icle, T_iclt, F_il7, F_inc8i, F_inc8r, F_inc8m, T_goto, J_ifge, F_il5, T_ret, F_al1, J_icne, T_sub, T_i2l, T_mulL, c243, ↓s243, hva, lv, mu, show 0 ≤ b + u by omega, ↓reduceIte, TK, lt_run hn, le43, Int.le_refl, Int.lt_irrefl, Option.some.injEq, exists_eq_left', true_and, and_true, if_true, if_false, decide_eq_false_iff_not, decide_eq_true_eq, Nat.reduceAdd, Nat.reduceLeDiff, Nat.reduceLT, Int.reduceAdd, Int.reduceSub, Int.reduceMul, Int.reduceNeg, not_true_eq_false, not_false_eq_true]
        exact k
    · subst y1
      have mt := M t y2 (by omega)
      rcases hH with ⟨x1, x2⟩ | ⟨u, x1, x2, x3, x4, x5⟩
      · subst x1
        rw [kv3 e R y2 y3 y5 x2] at k
        rw [k292_1]
        simp +decide (maxSteps := 4000000) (disch := omega) only [k292_0, k292_2, k292_3, k292_4, k292_5, k292_6, k292_7, k292_8, k292_9, k292_10, k292_r, k292_s, T_I, F_is6i, F_is6r, F_is6m, F_is7i, F_is7r, F_is7m, F_il2, F_is8i, F_is8r, F_is8m, T_ft, F_il8, F_il3, T_add, T_icge, F_al0, X_iald, F_il4, T_icgt, F_il6, J_iflt, T_icle, T_iclt, F_il7, F_inc8i, F_inc8r, F_inc8m, T_goto, J_ifge, F_il5, T_ret, F_al1, J_icne, T_sub, T_i2l, T_mulL, c243, ↓s243, hva, lv, mt.2, show 0 ≤ b + t by omega, ↓reduceIte, TK, lt_run hn, le43, Int.le_refl, Int.lt_irrefl, Option.some.injEq, exists_eq_left', true_and, and_true, if_true, if_false, decide_eq_false_iff_not, decide_eq_true_eq, Nat.reduceAdd, Nat.reduceLeDiff, Nat.reduceLT, Int.reduceAdd, Int.reduceSub, Int.reduceMul, Int.reduceNeg, not_true_eq_false, not_false_eq_true]
        exact k
      · subst x1
        have mu := M u x2 (by omega)
        by_cases tu : t = u
        · subst tu
          rw [kv4 e R y2 y3 (by omega)] at k
          rw [k292_1]
          simp +decide (maxSteps := 4000000) (disch := omega) only [k292_0, k292_2, k292_3, k292_4, k292_5, k292_6, k292_7, k292_8, k292_9, k292_10, k292_r, k292_s, T_I, F_is6i, F_is6r, F_is6m, F_is7i, F_is7r, F_is7m, F_il2, F_is8i, F_is8r, F_is8m, T_ft, F_il8, F_il3, T_add, T_icge, F_al0, X_iald, F_il4, T_icgt, F_il6, J_iflt, T_icle, T_iclt, F_il7, F_inc8i, F_inc8r, F_inc8m, T_goto, J_ifge, F_il5, T_ret, F_al1, J_icne, T_sub, T_i2l, T_mulL, c243, ↓s243, hva, lv, mt.2, show 0 ≤ b + t by omega, show ¬ b + t < 0 by omega, ↓reduceIte, TK, lt_run hn, le43, Int.le_refl, Int.lt_irrefl, Option.some.injEq, exists_eq_left', true_and, and_true, if_true, if_false, decide_eq_false_iff_not, decide_eq_true_eq, Nat.reduceAdd, Nat.reduceLeDiff, Nat.reduceLT, Int.reduceAdd, Int.reduceSub, Int.reduceMul, Int.reduceNeg, not_true_eq_false, not_false_eq_true]
          exact k
        · obtain ⟨z1, z2⟩ := kv5 (o := o) e R y2 y3 y4 y5 x2 x3 x4 x5 tu
          rw [z1] at k
          have rt := LR t y2 y3
          have ru := LR u x2 x3
          have mb := mulb (a := L.2.2 u - L.2.2 t) (b := f - L.2.1 t) (A := 800) (B := 119) (by omega) (by omega)
          rw [k292_1]
          simp +decide (maxSteps := 4000000) (disch := omega) only [k292_0, k292_2, k292_3, k292_4, k292_5, k292_6, k292_7, k292_8, k292_9, k292_10, k292_r, k292_s, T_I, F_is6i, F_is6r, F_is6m, F_is7i, F_is7r, F_is7m, F_il2, F_is8i, F_is8r, F_is8m, T_ft, F_il8, F_il3, T_add, T_icge, F_al0, X_iald, F_il4, T_icgt, F_il6, J_iflt, T_icle, T_iclt, F_il7, F_inc8i, F_inc8r, F_inc8m, T_goto, J_ifge, F_il5, T_ret, F_al1, J_icne, T_sub, T_i2l, T_mulL, c243, ↓s243, hfr, hva, lf, lv, mt, mu, show 0 ≤ b + t by omega, show ¬ b + u < 0 by omega, show ¬ b + t = b + u by omega, J_l, ↓reduceIte, TK, lt_run hn, le43, Int.le_refl, Int.lt_irrefl, Option.some.injEq, exists_eq_left', true_and, and_true, if_true, if_false, decide_eq_false_iff_not, decide_eq_true_eq, Nat.reduceAdd, Nat.reduceLeDiff, Nat.reduceLT, Int.reduceAdd, Int.reduceSub, Int.reduceMul, Int.reduceNeg, not_true_eq_false, not_false_eq_true]
          exact k
end KZ
