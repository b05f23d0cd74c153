/-! The machine does what the abstract machine says -/
section SS
variable {p : Program} {l : Launch} {e : Env} {R : Room} {s : State} {mid : MethodId} {args : Array Value} {below : List Frame} {meth : Method} {c : Code} {H : Heap} {locs : List Loc} {Q : State → Prop}
variable {G : SG} {m pc : Nat} {hi : AHi} {hr : AHr} {n nE : Nat} {LS : Array Slot} {ls st : List Value}
/-- the abstract heap never shrinks -/
theorem sem_mono {E : AEn} {o : AOp} {ls st : List Value} {hi : AHi} {hr : AHr} {n : Nat} {S : ASt} (h : a_sem E o ls st hi hr n = some S) : n ≤ S.2.2.2.2 := by
  unfold a_sem at h
  repeat' split at h
  all_goals first
    | (cases h; done)
    | (cases h; exact Nat.le_refl _)
    | (cases h; exact Nat.le_succ _)
    | (cases h; dsimp only; omega)
theorem ex_mono {E : AEn} : ∀ (f m : Nat) (is : List AOp) (ls st : List Value) (hi : AHi) (hr : AHr) (n : Nat) (r : ARs), a_ex E f m is ls st hi hr n = some r → n ≤ r.2.2.2 := by
  intro f
  induction f with
  | zero => intro m is ls st hi hr n r h; cases h
  | succ f ih =>
    intro m is ls st hi hr n r h
    cases is with
    | nil => cases h
    | cons o is =>
      unfold a_ex at h
      split at h
      · exact ih _ _ _ _ _ _ _ _ h
      · exact ih _ _ _ _ _ _ _ _ h
      · split at h
        · exact ih _ _ _ _ _ _ _ _ h
        · cases h
      · split at h
        · exact ih _ _ _ _ _ _ _ _ h
        · cases h
      · split at h
        · split at h
          · rename_i r1 h1
            exact Nat.le_trans (ih _ _ _ _ _ _ _ _ h1) (ih _ _ _ _ _ _ _ _ h)
          · cases h
        · cases h
      · split at h
        · cases h
          exact Nat.le_refl _
        · cases h
      · split at h
        · rename_i h1
          exact Nat.le_trans (sem_mono h1) (ih _ _ _ _ _ _ _ _ h)
        · cases h
/-- which instruction ends a method -/
def i_ret (cd : Nat) : Instr := if cd = 0 then .return_ else if cd = 1 then .ireturn else if cd = 2 then .lreturn else .areturn
/-- what is to be shown at a method's end -/
def Fin (p : Program) (l : Launch) (e : Env) (R : Room) (s : State) (mid : MethodId) (args : Array Value) (below : List Frame) (meth : Method) (c : Code) (Q : State → Prop) (G : SG) (m nE : Nat) (r : ARs) : Prop :=
  ∀ (H' : Heap) (locs' : List Loc) (LS' : Array Slot) (pc' cd : Nat) (st' : List Value), a_rv (a_rt m) cd st' = some r.1 → decode (a_code m) pc' = .ok (i_ret cd, 1) → cd < 4 → Rl G r.2.1 r.2.2.1 r.2.2.2 H' → (∀ q ∈ locs', G.1.size ≤ q.base) → W p l e R s mid args below meth c H' locs' (r.2.2.2 - nE) (s_sl G r.2.2.2 - s_sl G nE) Q (F0 mid pc' LS' (st'.map (g_e G)))
/-- what is shown of f steps -/
def Snd (l : Launch) (G : SG) (f : Nat) : Prop := ∀ (m : Nat) (is : List AOp) (pc : Nat) (ls st : List Value) (hi : AHi) (hr : AHr) (n : Nat) (r : ARs), a_mat m pc is = true → a_ex (g_E G) f m is ls st hi hr n = some r →
  ∀ (p : Program) (e : Env) (R : Room) (s : State) (mid : MethodId) (args : Array Value) (below : List Frame) (meth : Method) (c : Code) (Q : State → Prop) (H : Heap) (locs : List Loc) (LS : Array Slot) (nE : Nat), Cx p R s mid meth c m → KO G s → Rl G hi hr n H → lvr G LS (a_ml m) ls → (∀ q ∈ locs, G.1.size ≤ q.base) → nE ≤ n → r.2.2.2 - nE ≤ R.cells → s_sl G r.2.2.2 - s_sl G nE ≤ R.slots →
    Fin p l e R s mid args below meth c Q G m nE r → W p l e R s mid args below meth c H locs (n - nE) (s_sl G n - s_sl G nE) Q (F0 mid pc LS (st.map (g_e G)))
/-- a method's contract out of its run -/
def mPc (G : SG) (as : List Value) (hi : AHi) (hr : AHr) (n : Nat) : Array Value → State → Prop := fun a U => a = (as.map (g_e G)).toArray ∧ Rl G hi hr n U.heap ∧ KO G U
def mQc (G : SG) (r : ARs) : Array Value → State → Outcome → State → Prop := fun _ _ o t => o = .returned (r.1.map (g_e G)) ∧ Rl G r.2.1 r.2.2.1 r.2.2.2 t.heap
def mWs (m : Nat) : List Jvm.Cond := [.code (a_y m) (a_code m) (a_ml m) (a_rt m)]
theorem rv_inv {rt : Option FieldType} {cd : Nat} {st : List Value} {v : Option Value} (h : a_rv rt cd st = some v) (hcd : cd < 4) :
    (cd = 0 ∧ rt = none ∧ st = [] ∧ v = none) ∨ (cd = 1 ∧ ∃ x ty, rt = some ty ∧ st = [.int x] ∧ v = some (.int x) ∧ narrow ty (.int x) = .int x) ∨ (cd = 2 ∧ ∃ x, rt = some .long ∧ st = [.long x] ∧ v = some (.long x)) ∨ (cd = 3 ∧ ∃ w ty, rt = some ty ∧ ((∃ q, ty = .object q) ∨ ∃ q, ty = .array q) ∧ (w = .null ∨ ∃ a, w = .ref a) ∧ st = [w] ∧ v = some w) := by
  unfold a_rv at h
  split at h
  · cases h; exact Or.inl ⟨rfl, rfl, rfl, rfl⟩
  · cases h; exact Or.inr (Or.inl ⟨rfl, _, _, rfl, rfl, rfl, rfl⟩)
  · split at h
    · rename_i hx
      cases h
      refine Or.inr (Or.inl ⟨rfl, _, _, rfl, rfl, rfl, ?_⟩)
      rcases hx with h | h <;> rw [h] <;> rfl
    · cases h
  · split at h
    · rename_i x hx
      cases h
      refine Or.inr (Or.inl ⟨rfl, _, _, rfl, rfl, rfl, ?_⟩)
      rw [← hx]
      exact pk_nc x
    · cases h
  · split at h
    · rename_i x hx
      cases h
      refine Or.inr (Or.inl ⟨rfl, _, _, rfl, rfl, rfl, ?_⟩)
      rw [← hx]
      exact pk_nb x
    · cases h
  · cases h; exact Or.inr (Or.inr (Or.inl ⟨rfl, _, rfl, rfl, rfl⟩))
  · cases h; exact Or.inr (Or.inr (Or.inr ⟨rfl, _, _, rfl, Or.inl ⟨_, rfl⟩, Or.inr ⟨_, rfl⟩, rfl, rfl⟩))
  · cases h; exact Or.inr (Or.inr (Or.inr ⟨rfl, _, _, rfl, Or.inl ⟨_, rfl⟩, Or.inl rfl, rfl, rfl⟩))
  · cases h; exact Or.inr (Or.inr (Or.inr ⟨rfl, _, _, rfl, Or.inr ⟨_, rfl⟩, Or.inr ⟨_, rfl⟩, rfl, rfl⟩))
  · cases h
theorem fin_met (C : Cx p R s mid meth c m) {r : ARs} : Fin p l e R s mid args below meth c (MQ below (mQc G r) args s (r.2.2.2 - nE) (s_sl G r.2.2.2 - s_sl G nE) (fun a => G.1.size ≤ a)) G m nE r := by
  intro H' locs' LS' pc' cd st' hrv hdec hcd hRl hloc
  obtain ⟨hx, hb, -, -, hr, hlocks, -⟩ := C
  rcases rv_inv hrv hcd with ⟨rfl, h1, rfl, h3⟩ | ⟨rfl, x, ty, h1, rfl, h3, h4⟩ | ⟨rfl, x, h1, rfl, h3⟩ | ⟨rfl, w, ty, h1, h2, h5, rfl, h3⟩
  · exact W.vret hx hb (hr.trans h1) (fun t ht hW => ⟨by rw [h3]; rfl, by rw [ht]; exact hRl⟩) hloc hdec hlocks
  · exact W.zret hx hb (hr.trans h1) h4 (fun t ht hW => ⟨by rw [h3]; rfl, by rw [ht]; exact hRl⟩) hloc hdec hlocks
  · exact W.lret hx hb (hr.trans h1) (fun t ht hW => ⟨by rw [h3]; rfl, by rw [ht]; exact hRl⟩) hloc hdec hlocks
  · refine W.aret hx hb (hr.trans h1) h2 (v := g_e G w) ?_ (fun t ht hW => ⟨by rw [h3]; rfl, by rw [ht]; exact hRl⟩) hloc hdec hlocks
    rcases h5 with rfl | ⟨a, rfl⟩
    · exact Or.inl rfl
    · exact g_v_or G a
theorem met_of {f : Nat} (hS : Snd l G f) (WA : WAll) (hm : m < 359) {as : List Value} (hal : (a_args as).length ≤ a_ml m) (ham : ∀ u ∈ as, a_isM u = false) {r : ARs} (hE : a_ex (g_E G) f m (a_bl m 0) (a_pad (a_ml m) (a_args as)) [] hi hr n = some r) :
    Met l (a_y m) (mWs m) ({ frames := a_fr m, cells := r.2.2.2 - n, slots := s_sl G r.2.2.2 - s_sl G n, locals := a_lo m }) (mPc G as hi hr n) (mQc G r) (r.2.2.2 - n) (s_sl G r.2.2.2 - s_sl G n) (fun a => G.1.size ≤ a) := by
  have hW := WA.2.2.2.2.2.2.1 m hm
  refine va_MetF (cc := a_code m) (maxL := a_ml m) (ret := a_rt m) hW.2.2.2.2.1 rfl ?_
  intro p e s mid args below meth c s₁ B hml hv
  obtain ⟨rfl, hRl, hK⟩ := hv
  have hmat := WA.2.2.2.2.2.2.2.2.2.2.1 m 0 (by omega)
  have hpc := WA.2.2.2.2.2.2.2.2.2.2.2.2.2.2.2.2.2.1 m (by omega)
  rw [hpc] at hmat
  have C : Cx p (headSpec (mWs m) ({ frames := a_fr m, cells := r.2.2.2 - n, slots := s_sl G r.2.2.2 - s_sl G n, locals := a_lo m })).room s mid meth c m :=
    ⟨B.exec, B.bytes, hml, findClass_of_methodNamed B.named, B.returns, B.notSynchronized, fun h => by rw [← h]; exact (name_of_methodNamed B.named B.method).1, rfl, rfl, by omega⟩
  rw [lg_entry_eq]
  have := hS m (a_bl m 0) 0 (a_pad (a_ml m) (a_args as)) [] hi hr n r hmat hE p e _ s mid (as.map (g_e G)).toArray below meth c _ s.heap [] _ n C hK hRl (lvr_entry G ham hal) (fun q h => by cases h) (Nat.le_refl n) (Nat.le_refl _) (Nat.le_refl _) (fin_met C)
  rw [Nat.sub_self, Nat.sub_self] at this
  exact this
end SS
