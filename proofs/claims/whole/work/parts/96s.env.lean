/-! pictures: what they are made of -/
/-- drawings, fills, rows, palettes, depths, wiggles, the camera, nodes -/
abbrev PEn : Type := (Int → Drw) × (Int → Nat → Nat) × (Int → Fils) × (Int → Int) × (Int → Int → Int) × (Int → Int → Int) × (Int → Int) × (Int → Int32) × (Int → Int) × (Int → Int) × Int × (Int → Int) × (Int → Int) × (Int → Int) × (Int → Int) × (Int → Int) × (Int → Int) × (Int → Int) × (Int → Int) × Int × (Int → Int) × (Int → Int → Int)
def PEn.D (e : PEn) : Int → Drw := e.1
def PEn.ρ (e : PEn) : Int → Nat → Nat := e.2.1
def PEn.G (e : PEn) : Int → Fils := e.2.2.1
def PEn.N (e : PEn) : Int → Int := e.2.2.2.1
def PEn.R (e : PEn) : Int → Int → Int := e.2.2.2.2.1
def PEn.P (e : PEn) : Int → Int → Int := e.2.2.2.2.2.1
def PEn.dp (e : PEn) : Int → Int := e.2.2.2.2.2.2.1
def PEn.S (e : PEn) : Int → Int32 := e.2.2.2.2.2.2.2.1
def PEn.V (e : PEn) : Int → Int := e.2.2.2.2.2.2.2.2.1
def PEn.M (e : PEn) : Int → Int := e.2.2.2.2.2.2.2.2.2.1
def PEn.cm (e : PEn) : Int := e.2.2.2.2.2.2.2.2.2.2.1
def PEn.F (e : PEn) : Int → Int := e.2.2.2.2.2.2.2.2.2.2.2.1
def PEn.X (e : PEn) : Int → Int := e.2.2.2.2.2.2.2.2.2.2.2.2.1
def PEn.Y (e : PEn) : Int → Int := e.2.2.2.2.2.2.2.2.2.2.2.2.2.1
def PEn.Z (e : PEn) : Int → Int := e.2.2.2.2.2.2.2.2.2.2.2.2.2.2.1
def PEn.F' (e : PEn) : Int → Int := e.2.2.2.2.2.2.2.2.2.2.2.2.2.2.2.1
def PEn.X' (e : PEn) : Int → Int := e.2.2.2.2.2.2.2.2.2.2.2.2.2.2.2.2.1
def PEn.Y' (e : PEn) : Int → Int := e.2.2.2.2.2.2.2.2.2.2.2.2.2.2.2.2.2.1
def PEn.Z' (e : PEn) : Int → Int := e.2.2.2.2.2.2.2.2.2.2.2.2.2.2.2.2.2.2.1
def PEn.m (e : PEn) : Int := e.2.2.2.2.2.2.2.2.2.2.2.2.2.2.2.2.2.2.2.1
def PEn.K (e : PEn) : Int → Int := e.2.2.2.2.2.2.2.2.2.2.2.2.2.2.2.2.2.2.2.2.1
def PEn.T (e : PEn) : Int → Int → Int := e.2.2.2.2.2.2.2.2.2.2.2.2.2.2.2.2.2.2.2.2.2
def PW (h : AHi) (hr : AHr) (e : PEn) : Prop := Dw e.D e.ρ h hr ∧ Fw e.G h ∧ ((∀ p c, 0 ≤ e.P p c ∧ e.P p c ≤ 16777215) ∧ ∀ p c, 0 ≤ p → p < 4 → 1 ≤ c → c < 16 → gA h (86 + p.toNat) c = J (e.P p c) ∧ gA h 733 (16 * p + c) = J (e.P p c)) ∧ ((∀ l, 0 ≤ e.N l ∧ e.N l ≤ 120) ∧ (∀ l f, -1 ≤ e.R l f ∧ e.R l f ≤ 15) ∧ ∀ l, 0 ≤ l → l < 4 → h (623 + 3 * l.toNat) 1 = J (e.N l) ∧ gA h 735 l = J (e.N l) ∧ ∀ f, 0 ≤ f → f < e.N l → gA h (624 + 3 * l.toNat) f = J (e.R l f) ∧ gA h 734 (120 * l + f) = J (e.R l f)) ∧ ((∀ l, 16 ≤ e.dp l ∧ e.dp l ≤ 1024) ∧ ∀ l, 0 ≤ l → l < 4 → h (623 + 3 * l.toNat) 4 = J (e.dp l) ∧ gA h 760 l = J (e.dp l)) ∧ ((∀ l, 0 ≤ e.V l ∧ e.V l ≤ 24) ∧ (∀ l, 0 ≤ e.M l ∧ e.M l ≤ 3) ∧ ∀ l, 0 ≤ l → l < 4 → (h (623 + 3 * l.toNat) 5 = e.S l ∧ h (623 + 3 * l.toNat) 6 = J (e.V l) ∧ h (623 + 3 * l.toNat) 7 = J (e.M l)) ∧ gA h 763 l = e.S l ∧ gA h 761 l = J (e.V l) ∧ gA h 762 l = J (e.M l)) ∧ Cm e.cm e.F e.X e.Y e.Z e.F' e.X' e.Y' e.Z' h ∧ (0 ≤ e.m ∧ e.m ≤ 10) ∧ (∀ i, 0 ≤ e.K i ∧ e.K i ≤ 7) ∧ (∀ i, 0 ≤ i → i < e.m → NA (e.K i) i (e.T i)) ∧ (h 113 2 = J e.m ∧ h 704 82 = J e.m) ∧ (∀ i : Nat, i < 10 → ∃ k, k < 8 ∧ hr 114 i = some (4 + k)) ∧ ∀ i, 0 ≤ i → i < e.m → hr 114 i.toNat = some (4 + (e.K i).toNat) ∧ gA h 764 i = J (e.K i) ∧ ∀ q, 0 ≤ q → q < nar (e.K i) → gA h (116 + i.toNat) q = J (e.T i q) ∧ gA h 765 (6 * i + q) = J (e.T i q)
section EN
variable {h h' : AHi} {hr : AHr} {e : PEn}
theorem PW.mk' (C3 : Cp3 h hr) (C4 : Cp4 h) (C5 : Cp5 h) (C6 : Cp6 h) (C7 : Cp7 h) (C8 : Cp8 h) (C15 : Cp15 h) (C16 : Cp16 h hr) : ∃ e, PW h hr e := by
  obtain ⟨D, ρ, c3⟩ := C3
  obtain ⟨G, c4⟩ := C4
  obtain ⟨P, c5⟩ := C5
  obtain ⟨N, R, c6⟩ := C6
  obtain ⟨dp, c7⟩ := C7
  obtain ⟨S, V, M, c8⟩ := C8
  obtain ⟨cm, F, X, Y, Z, F', X', Y', Z', c15⟩ := C15
  obtain ⟨m, K, T, c16⟩ := C16
  exact ⟨(D, ρ, G, N, R, P, dp, S, V, M, cm, F, X, Y, Z, F', X', Y', Z', m, K, T), c3, c4, c5, c6, c7, c8, c15, c16⟩
/-- cells that no picture is made of -/
def Zs (a k : Nat) : Prop := sys a k = 0 ∨ sys a k = 2 ∨ sys a k = 17
theorem PW.z (W : PW h hr e) (z : Ef Zs h h') : PW h' hr e := by
  have sm : ∀ s, s ≠ 0 → s ≠ 2 → s ≠ 17 → Sm s h h' := fun s h0 h2 h17 a k q => z a k (fun w => by unfold Zs at w; omega)
  obtain ⟨c3, c4, ⟨p1, p2⟩, ⟨r1, r2, r3⟩, ⟨d1, d2⟩, ⟨w1, w2, w3⟩, cc, n1, n2, n3, n4, n5, n6⟩ := W
  have s5 := sm 5 (by decide) (by decide) (by decide)
  have s6 := sm 6 (by decide) (by decide) (by decide)
  have s7 := sm 7 (by decide) (by decide) (by decide)
  have s8 := sm 8 (by decide) (by decide) (by decide)
  have s16 := sm 16 (by decide) (by decide) (by decide)
  refine ⟨c3.sm (sm 3 (by decide) (by decide) (by decide)), ?_, ⟨p1, fun p c a1 a2 a3 a4 => ?_⟩, ⟨r1, r2, fun l a1 a2 => ?_⟩, ⟨d1, fun l a1 a2 => ?_⟩, ⟨w1, w2, fun l a1 a2 => ?_⟩, cc.ef z (fun a k q w => by unfold Zs at w; omega), n1, n2, n3, ?_, n5, fun i a1 a2 => ?_⟩
  · refine ⟨c4.1, fun d d0 d1 => ?_⟩
    have s4 := sm 4 (by decide) (by decide) (by decide)
    obtain ⟨q1, q2⟩ := c4.2 d d0 d1
    have r := (c4.1 d).1
    refine ⟨⟨(s4 _ _ (sysF5 (by omega))).trans q1.1, fun i i0 i1 => ?_⟩, (s4.g (sysF7 (by omega) (by omega))).trans q2.1, fun i i0 i1 => ?_⟩
    · have := q1.2 i i0 i1
      unfold FcC at this ⊢
      rw [s4.g (sysF (d := d.toNat) (by omega) (by omega) (by omega)), s4.g (sysF (d := d.toNat) (by omega) (by omega) (by omega)), s4.g (sysF (d := d.toNat) (by omega) (by omega) (by omega))]
      exact this
    · have := q2.2 i i0 i1
      unfold FcM at this ⊢
      rw [s4.g (sysF7 (by omega) (by omega)), s4.g (sysF7 (by omega) (by omega)), s4.g (sysF7 (by omega) (by omega)), s4.g (sysF7 (by omega) (by omega))]
      exact this
  · rw [s5.g (sys86 (by omega)), s5.g rfl]
    exact p2 p c a1 a2 a3 a4
  · obtain ⟨b1, b2, b3⟩ := r3 l a1 a2
    refine ⟨(s6 _ _ (sysL1 (by omega))).trans b1, (s6.g rfl).trans b2, fun f f0 f1 => ?_⟩
    obtain ⟨b4, b5⟩ := b3 f f0 f1
    refine ⟨(s6.g ?_).trans b4, (s6.g rfl).trans b5⟩
    rw [sys_L (by omega) (by omega), show (624 + 3 * l.toNat - 623) % 3 = 1 by omega]
    rfl
  · obtain ⟨b1, b2⟩ := d2 l a1 a2
    refine ⟨(s7 _ _ ?_).trans b1, (s7.g rfl).trans b2⟩
    rw [sys_L (by omega) (by omega), show (623 + 3 * l.toNat - 623) % 3 = 0 by omega]
    rfl
  · obtain ⟨⟨b1, b2, b3⟩, b4, b5, b6⟩ := w3 l a1 a2
    have q : ∀ k, k = 5 ∨ k = 6 ∨ k = 7 → sys (623 + 3 * l.toNat) k = 8 := fun k hk => by
      rw [sys_L (by omega) (by omega), show (623 + 3 * l.toNat - 623) % 3 = 0 by omega]
      rcases hk with rfl | rfl | rfl <;> rfl
    exact ⟨⟨(s8 _ _ (q 5 (by decide))).trans b1, (s8 _ _ (q 6 (by decide))).trans b2, (s8 _ _ (q 7 (by decide))).trans b3⟩, (s8.g rfl).trans b4, (s8.g rfl).trans b5, (s8.g rfl).trans b6⟩
  · rw [s16 113 2 rfl, s16 704 82 rfl]
    exact n4
  · obtain ⟨b1, b2, b3⟩ := n6 i a1 a2
    refine ⟨b1, (s16.g rfl).trans b2, fun q q1 q2 => ?_⟩
    rw [s16.g (sys116 (by omega)), s16.g rfl]
    exact b3 q q1 q2
/-- how a layer's strokes are moved -/
def ofL (e : PEn) (l f : Int) : Int → Int → Int → Int := if e.V l = 0 then off0 else fun i j a => wgl (e.S l) (e.V l) (e.M l) f i j a
/-- the picture of a layer -/
noncomputable def LyP (e : PEn) (f l p : Int) : Pic := if row (e.N l) (e.R l) f = -1 then fun _ => -1 else pcL (ptD (wgD (e.D (row (e.N l) (e.R l) f)) (ofL e l f)) (e.G (row (e.N l) (e.R l) f))) (e.P p) (e.dp l) (cmv e.cm e.F e.X f 0) (cmv e.cm e.F e.Y f 0) (cmv e.cm e.F e.Z f 64)
/-- the picture of a node at a frame -/
noncomputable def PN (e : PEn) (f i : Int) : Pic := pcN (LyP e f) f e.K e.T i
theorem LyP_r (W : PW h hr e) (f l p : Int) : pcR (LyP e f l p) := fun q q0 q1 => by
  unfold LyP
  split
  · dsimp only
    omega
  · unfold pcL
    split
    · have := W.2.2.1.1 p (ptD (wgD (e.D (row (e.N l) (e.R l) f)) (ofL e l f)) (e.G (row (e.N l) (e.R l) f)) (plc 16 (e.dp l) (cmv e.cm e.F e.Y f 0) (cmv e.cm e.F e.Z f 64) (q / 48) * 48 + plc 24 (e.dp l) (cmv e.cm e.F e.X f 0) (cmv e.cm e.F e.Z f 64) (q % 48)))
      omega
    · omega
theorem PN_r (W : PW h hr e) (f : Int) {i : Int} (h0 : 0 ≤ i) (h1 : i < e.m) : pcR (PN e f i) := by
  obtain ⟨_, _, _, _, _, _, _, n1, n2, n3, _⟩ := id W
  exact pcN_r (fun l p => LyP_r W f l p) n3 n2 10 i h0 h1 (by omega)
theorem PN_s (W : PW h hr e) (f : Int) {i : Int} (h0 : 0 ≤ i) (h1 : i < e.m) : PN e f i = wrk (LyP e f) f (e.K i) (e.T i) (PN e f) := by
  obtain ⟨_, _, _, _, _, _, _, n1, n2, n3, _⟩ := id W
  exact pcN_s h0 (n3 i h0 h1)
theorem ptD_r {D : Drw} {G : Fils} (R : DRr D) (RG : FRr G) (q : Int) : 0 ≤ ptD D G q ∧ ptD D G q ≤ 15 := ptF_r R RG _ q
end EN
