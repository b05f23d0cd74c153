/-! THE CLAIM OUT OF ONE WALK OF THE LAW'S BODY. Your part is whole_start (and what it stands on); all else here is the same for every law, but numbers. -/
def R_law : String := "CartoonHouseLaw"
def lw_P (b : Addr) (xs : List Int32) (args : Array Value) (s : State) : Prop := args = #[.ref b] ∧ s.IntsAt b xs ∧ xs.length ≤ 384 ∧ (Jvm.Cond.and given_1 narrow_1).before args s = true
def lw_Q (_ : Array Value) (s : State) (o : Outcome) (t : State) : Prop := o = .returned (some (.int 1)) ∧ Framed s o t [] 600000 7302250
def lw_Z (below : List Frame) (a : Array Value) (s : State) : State → Prop := fun t => ∃ o, t.status = .running ∧ Ended t below o ∧ lw_Q a s o t
/-- the law's own end, with 1 on the stack, nothing written that was there before, its room as the claim has it -/
theorem lw_ret {p : Program} {l : Launch} {e : Env} {s : State} {m : MethodId} {below : List Frame} {meth : Method} {c : Code} {b : Nat} (hx : p.tables.exec = Jvm.exec) (hb : c.code = code) (hr : meth.sig.returnType = ret) (hlocks : meth.locks = false) {pc : Nat} {H : Heap} {ls : Array Slot} (hdg : decode code pc = .ok (.ireturn, 1)) : W p l e room_1 s m #[Value.ref b] below meth c H [] 600000 7302250 (lw_Z below #[Value.ref b] s) (F0 m pc ls [.int 1]) := by
  intro T hT X
  obtain ⟨fs, hret, hrun, hended, hW, hframe⟩ := X.leave (v := some (.int 1)) (hlocks := hlocks) (fun h => by rw [hr] at h; cases h)
  have hmeth' : T.vm.method? m = some meth := X.method'
  refine ⟨T.setFrames fs, ?_, .returned (some (.int 1)), hrun, hended, rfl, ⟨_, rfl⟩, hW, hframe⟩
  jvm_step X.here [X.here.top, hx, hb, hdg, hmeth', hr, ret, narrow_b1]
  (try refine ⟨rfl, ?_⟩); (try refine ⟨rfl, ?_⟩)
  first | (intro acts; rw [hret _ acts rfl rfl rfl]) | rw [hret _ _ rfl rfl rfl]
  exact Steps.refl _
/-- what holds at the law's entry: the machine, the code, the tables' words (any of lw_tbl by 'hts w (by decide +kernel)'), the script of L ints xs at the cell b, what the Statement gives of the start (any of its parts by flat_of_before) -/
def lw_At (p : Program) (s : State) (m : MethodId) (meth : Method) (c : Code) (b L : Nat) (xs : Nat → Int32) : Prop :=
  p.tables.exec = Jvm.exec ∧ c.code = code ∧ meth.sig.returnType = ret ∧ c.maxLocals = 4 ∧ s.vm.findClass R_law = some m.cls ∧ (∀ w ∈ lw_tbl, w.before #[Value.ref b] s = true) ∧ va_X b L xs s s.heap ∧ b < s.heap.size ∧ meth.locks = false ∧ (Jvm.Cond.and given_1 narrow_1).before #[Value.ref b] s = true
/-! The law's start out of a run of the abstract machine -/
def hi0 : AHi := fun _ _ => 0
def hr0 : AHr := fun _ _ => none
/-- the abstract run of the law ends with 1 -/
def LawRun (E : AEn) : Prop := ∃ (f : Nat) (r : ARs), a_ex E f 359 (a_bl 359 0) (a_pad 4 (a_args [.ref 0])) [] hi0 hr0 43 = some r ∧ r.1 = some (.int 1) ∧ r.2.2.2 ≤ 776
def slS : Nat → Nat
  | 0 => 0
  | k + 1 => slS k + (if a_kd (43 + k) < 12 then c_N (a_kd (43 + k)) else a_lnS (43 + k))
theorem slS_eq (G : SG) (k : Nat) : s_sl G (43 + k) = s_sl G 43 + slS k := by
  induction k with
  | zero => rw [Nat.add_zero]; exact (Nat.add_zero _).symm
  | succ k ih =>
    have : a_ln (g_E G) (43 + k) = a_lnS (43 + k) := by
      unfold a_ln
      rw [show Nat.beq (43 + k) 0 = false from Bool.eq_false_iff.mpr (fun h => by have := Nat.eq_of_beq_eq_true h; omega)]
      rfl
    rw [← Nat.add_assoc, s_sl_succ, ih, slS]
    unfold s_sz
    rw [this]
    omega
theorem slS_le : slS 733 ≤ 7302250 := by decide +kernel
theorem sl_room (G : SG) {n : Nat} (h : n ≤ 776) : s_sl G n - s_sl G 43 ≤ 7302250 := by
  have h1 := s_sl_mono G h
  have h2 := slS_eq G 733
  have h3 := slS_le
  rw [show 43 + 733 = 776 from rfl] at h2
  omega
theorem law_m : a_y 359 = ⟨"CartoonHouseLaw", "law", "([I)Z"⟩ ∧ a_ml 359 = 4 ∧ a_fr 359 = 11 ∧ a_lo 359 = 488 := by decide +kernel
theorem law_c : a_code 359 = code ∧ a_rt 359 = ret := ⟨rfl, rfl⟩
theorem whole_of {p : Program} {e : Env} {s : State} {m : MethodId} {below : List Frame} {meth : Method} {c : Code} (l : Launch) {b L : Nat} {xs : Nat → Int32} (WA : WAll) (hrun : LawRun (L, xs)) (G : SG) (hG0 : G.1 = s.heap) (hGE : g_E G = (L, xs)) (hGb : G.2.1 0 = some b) (K : KO G s) (C0 : lw_At p s m meth c b L xs) :
    W p l e room_1 s m #[Value.ref b] below meth c s.heap [] 0 0 (lw_Z below #[Value.ref b] s) (entryFrame m ([Value.ref b] : List Value).toArray 4) := by
  obtain ⟨hx, hb, hr, hml, hown, hts, hX, hbl, hlocks, hgv⟩ := C0
  obtain ⟨f, r, hE, hr1, hr2⟩ := hrun
  obtain ⟨ly, lml, lfr, llo⟩ := law_m
  have C : Cx p room_1 s m meth c 359 := by
    refine ⟨hx, hb, by rw [lml]; exact hml, by rw [ly]; exact hown, hr, hlocks, fun h => ?_, by rw [lfr]; rfl, by rw [llo]; rfl, by decide⟩
    rw [ly] at h
    exact absurd h (by decide)
  have hRl : Rl G hi0 hr0 43 s.heap := ⟨Nat.le_refl _, by rw [hG0]; rfl, fun a _ => by rw [hG0], fun id h1 h2 => by omega⟩
  have hmat := WA.2.2.2.2.2.2.2.2.2.2.1 359 0 (by decide)
  have hpc := WA.2.2.2.2.2.2.2.2.2.2.2.2.2.2.2.2.2.1 359 (by decide)
  rw [hpc] at hmat
  rw [lg_entry_eq]
  have hlv := lvr_entry G (vs := [.ref 0]) (n := 4) (fun u hu => by rw [List.mem_singleton.mp hu]; rfl) (by decide)
  have hv : g_e G (.ref 0) = .ref b := g_v_lo (by decide) hGb
  rw [List.map_cons, List.map_nil, hv] at hlv
  have hE' : a_ex (g_E G) f 359 (a_bl 359 0) (a_pad 4 (a_args [.ref 0])) [] hi0 hr0 43 = some r := by rw [hGE]; exact hE
  have := snd_all (l := l) (G := G) WA f 359 (a_bl 359 0) 0 (a_pad 4 (a_args [.ref 0])) [] hi0 hr0 43 r hmat hE' p e room_1 s m #[Value.ref b] below meth c (lw_Z below #[Value.ref b] s) s.heap [] _ 43 C K hRl (by rw [lml]; exact hlv) (fun q h => by cases h) (Nat.le_refl _) (by show _ ≤ 600000; omega) (sl_room G hr2) ?_
  · rw [Nat.sub_self, Nat.sub_self] at this
    exact this
  · intro H' locs' LS' pc' cd st' hrv hdec hcd hRl' hloc'
    rcases rv_inv hrv hcd with ⟨-, h1, -⟩ | ⟨rfl, x, ty, h1, rfl, h3, h4⟩ | ⟨-, x, -, -, h3⟩ | ⟨-, w, ty, -, -, h5, -, h3⟩
    · rw [law_c.2] at h1
      cases h1
    · rw [hr1] at h3
      have hx1 : x = 1 := by
        have := Option.some.inj h3
        exact (Value.int.inj this).symm
      subst hx1
      refine va_forget (fun q hq => by rw [← hG0]; exact hloc' q hq) ?_
      refine W.widen (k := 600000) (n := 7302250) (by omega) (sl_room G hr2) ?_
      exact lw_ret hx hb hr hlocks hdec
    · rw [hr1] at h3
      cases h3
    · rw [hr1] at h3
      rcases h5 with rfl | ⟨a, rfl⟩ <;> cases h3
