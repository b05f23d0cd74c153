/-! new T[n][m], over the machine -/
section SH
variable {p : Program} {l : Launch} {e : Env} {R : Room} {s : State} {mid : MethodId} {args : Array Value} {below : List Frame} {meth : Method} {c : Code} {H : Heap} {locs : List Loc} {cells slots : Nat} {Q : State → Prop}
variable {G : SG} {m pc : Nat} {hi : AHi} {hr : AHr} {n : Nat} {LS : Array Slot} {rest : List Value}
theorem st_mna (C : Cx p R s mid meth c m) (K : KO G s) (WA : WAll) (hRl : Rl G hi hr n H) {x : Nat} {q : Nat × Nat} (hf : a_find a_nls (a_oc m) x = some q) (hq : q.1 = 50) {j k : Int32} (hk : a_kd n = 50) (hj : ¬ j < 0) (hk0 : ¬ k < 0) (hln : a_ln (g_E G) n = j.toNatClampNeg) (hbj : j.toNatClampNeg ≤ 60000) (hbk : k.toNatClampNeg ≤ 60000) (hin : ∀ i, i < j.toNatClampNeg → a_kd (n + 1 + i) = 20 ∧ a_ln (g_E G) (n + 1 + i) = k.toNatClampNeg)
    (hcells : cells + (1 + j.toNatClampNeg) ≤ R.cells) (hslots : slots + (j.toNatClampNeg + j.toNatClampNeg * k.toNatClampNeg) ≤ R.slots) (hdg : decode (a_code m) pc = .ok (.multianewarray x 2, 4))
    (kk : ∀ H' : Heap, Rl G (a_zero hi n j.toNatClampNeg) (a_rows hr n j.toNatClampNeg) (n + 1 + j.toNatClampNeg) H' → W p l e R s mid args below meth c H' locs (cells + (1 + j.toNatClampNeg)) (slots + (j.toNatClampNeg + j.toNatClampNeg * k.toNatClampNeg)) Q (F0 mid (pc + 4) LS (g_v G n :: rest))) : W p l e R s mid args below meth c H locs cells slots Q (F0 mid pc LS (.int k :: .int j :: rest)) := by
  sorry
end SH
