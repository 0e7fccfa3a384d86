theorem xstr60 {args : Array Value} {s : State} (hgv : (Jvm.Cond.and given_1 narrow_1).before args s = true) : ∃ a : Nat, (Term.string RX11 151).eval args s none [] s = some (.ref a) := by
  have hs := flat_of_before _ hgv
  obtain ⟨a, c, cA, kA, q1, -⟩ := Cond.exactly_spec (args := args) (first := s) (o := none) (s := s) (idx := []) (t := Term.string RX11 151) (cls := "java/lang/String") (hs _ (by decide +kernel))
  exact ⟨a, q1⟩
theorem xstr61 {args : Array Value} {s : State} (hgv : (Jvm.Cond.and given_1 narrow_1).before args s = true) : ∃ a : Nat, (Term.string RX11 180).eval args s none [] s = some (.ref a) := by
  have hs := flat_of_before _ hgv
  obtain ⟨a, c, cA, kA, q1, -⟩ := Cond.exactly_spec (args := args) (first := s) (o := none) (s := s) (idx := []) (t := Term.string RX11 180) (cls := "java/lang/String") (hs _ (by decide +kernel))
  exact ⟨a, q1⟩
theorem xfacts {b : Nat} {s : State} (hts : ∀ w ∈ lw_tbl, w.before #[Value.ref b] s = true) (hgv : (Jvm.Cond.and given_1 narrow_1).before #[Value.ref b] s = true) : ∃ sa : Nat → Nat, xFx s.heap.size sa s ∧ sa 50 = b := by
  have hs := flat_of_before _ hgv
  have hA : ∀ a : Nat, a < s.heap.size → ¬ (fun q => s.heap.size ≤ q) a := fun a ha => by show ¬ s.heap.size ≤ a; omega
  obtain ⟨s0, v0, e0, t0⟩ := xtext0 hgv
  obtain ⟨s1, v1, e1, t1⟩ := xtext1 hgv
  obtain ⟨s2, v2, e2, t2⟩ := xtext2 hgv
  obtain ⟨u, eu⟩ := xstr60 hgv
  obtain ⟨u1, eu1⟩ := xstr61 hgv
  have hc : va_Z "java/lang/String" "COMPACT_STRINGS" "Z" (.int 1) (fun q => s.heap.size ≤ q) s s.heap := va_Zof (hts _ (by decide +kernel)) (hts _ (by decide +kernel)) (va_eqt (hs (.eq (.static "java/lang/String" "COMPACT_STRINGS" "Z") (.int 1)) (by decide +kernel))) hA
  have hz := va_Zqof (C := "jdk/internal/util/Preconditions") (n := "SIOOBE_FORMATTER") (d := "Ljava/util/function/BiFunction;") (A := fun q => s.heap.size ≤ q) (hts _ (by decide +kernel)) (hts _ (by decide +kernel)) (hs _ (by decide +kernel)) hA
  have hU : vx_Zq Bundle.tN "UNASSIGNED_STACK" Bundle.steD (fun q => s.heap.size ≤ q) s s.heap := vx_Zqof (hts _ (by decide +kernel)) (hts _ (by decide +kernel)) (hs _ (by decide +kernel)) hA
  have hN : vx_Zq Bundle.tN "SUPPRESSED_SENTINEL" Bundle.listD (fun q => s.heap.size ≤ q) s s.heap := vx_Zqof (hts _ (by decide +kernel)) (hts _ (by decide +kernel)) (hs _ (by decide +kernel)) hA
  have hnw : ∀ w ∈ xnw, va_Nw w s := by
    intro w hw
    have h1 : w ∈ lw_tbl := (by decide +kernel : ∀ w ∈ xnw, w ∈ lw_tbl) w hw
    have h2 : w.onTables = true := (by decide +kernel : ∀ w ∈ xnw, w.onTables = true) w hw
    exact va_Nw.of h2 (hts w h1)
  have hth : ∀ w ∈ xthr, va_Nw w s := by
    intro w hw
    have h1 : w ∈ lw_tbl := (by decide +kernel : ∀ w ∈ xthr, w ∈ lw_tbl) w hw
    have h2 : w.onTables = true := (by decide +kernel : ∀ w ∈ xthr, w.onTables = true) w hw
    exact va_Nw.of h2 (hts w h1)
  have hth2 : ∀ w ∈ xthr2, va_Nw w s := by
    intro w hw
    have h1 : w ∈ lw_tbl := (by decide +kernel : ∀ w ∈ xthr2, w ∈ lw_tbl) w hw
    have h2 : w.onTables = true := (by decide +kernel : ∀ w ∈ xthr2, w.onTables = true) w hw
    exact va_Nw.of h2 (hts w h1)
  obtain ⟨fl, t, hzz⟩ : ∃ fl t : Nat, va_Z "jdk/internal/util/Preconditions" "SIOOBE_FORMATTER" "Ljava/util/function/BiFunction;" (if fl = 0 then .null else .ref t) (fun q => s.heap.size ≤ q) s s.heap := by
    rcases hz with hz | ⟨t, hz⟩
    · exact ⟨0, 0, hz⟩
    · exact ⟨1, t, hz⟩
  refine ⟨fun k => if k = 0 then s0 else if k = 1 then s1 else if k = 2 then s2 else if k = 1002 then v2 else if k = 61 then u1 else if k = 1000 then v0 else if k = 1001 then v1 else if k = 98 then fl else if k = 99 then t else if k = 60 then u else b, ⟨hnw, (show va_Nw (.arrayOver (.array .int)) s from hts (.arrayOver (.array .int)) (by decide +kernel)), fun k hk => ?_, vk_R.of (hts _ (by decide +kernel)) e0, vk_R.of (hts _ (by decide +kernel)) e1, hc, hzz, hU, hN, vk_R.of (hts _ (by decide +kernel)) eu, hth, vk_R.of (hts _ (by decide +kernel)) e2, vk_R.of (hts _ (by decide +kernel)) eu1, hth2⟩, rfl⟩
  rcases (show k = 0 ∨ k = 1 ∨ k = 2 by omega) with rfl | rfl | rfl
  · exact t0
  · exact t1
  · exact t2
