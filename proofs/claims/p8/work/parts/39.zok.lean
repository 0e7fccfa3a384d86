section ZO
variable {E : yE} {d : Nat} {M : xM} {pc : Nat} {rg : zR} {st : List yV} {mem : yMem} {Post : Option yV → yMem → Prop}
/-- ops that leave the locals alone and aren't told anew in zstep -/
theorem zdel {R : Room} {op : xOp} {k1 : Nat → yL → List yV → yMem → Prop} {k2 : Nat → yL → List yV → yMem → Prop} {lv lv' : yL} (hk : ∀ pc st mem, k1 pc lv st mem → k2 pc lv' st mem) (hn : zis [0, 1, 6, 8, 12, 13, 14, 15, 30, 31, 32, 33, 34, 35, 37, 38, 40, 41, 60, 61, 62, 63, 64, 65, 66, 70, 71, 72] op.1 = true) (h : ystep E R d M op lv st mem Post k1) : ystep E R d M op lv' st mem Post k2 := by
  obtain ⟨tg, nx, a, b, cs⟩ := op
  match tg, hn, h with
  | 0, _, h => exact hk _ _ _ h
  | 1, _, h => exact hk _ _ _ h
  | 6, _, h =>
    match st, h with
    | (0, x) :: st', h => exact hk _ _ _ h
  | 8, _, h =>
    match st, h with
    | (4, y) :: (4, x) :: st', h => exact hk _ _ _ h
  | 12, _, h =>
    match st, h with
    | (0, x) :: st', h => exact ⟨fun c => hk _ _ _ (h.1 c), fun c => hk _ _ _ (h.2 c)⟩
  | 13, _, h =>
    match st, h with
    | (0, y) :: (0, x) :: st', h => exact ⟨fun c => hk _ _ _ (h.1 c), fun c => hk _ _ _ (h.2 c)⟩
  | 14, _, h => exact hk _ _ _ h
  | 15, _, h =>
    match st, h with
    | (0, x) :: st', h => exact ⟨fun q hq c => hk _ _ _ (h.1 q hq c), fun c => hk _ _ _ (h.2.1 c), h.2.2⟩
  | 30, _, h =>
    match st, h with
    | [(0, x)], h => exact h
  | 31, _, h =>
    match st, h with
    | [(4, x)], h => exact h
  | 32, _, h =>
    match st, h with
    | [], h => exact h
  | 33, _, h => exact hk _ _ _ h
  | 34, _, h => exact hk _ _ _ h
  | 35, _, h =>
    match st, h with
    | (5, i) :: st', h => exact ⟨h.1, hk _ _ _ h.2⟩
  | 37, _, h =>
    match st, h with
    | (0, j) :: (6, i) :: st', h => exact ⟨h.1, h.2.1, h.2.2.1, hk _ _ _ h.2.2.2⟩
  | 38, _, h =>
    match st, h with
    | (0, x) :: st', h => exact ⟨h.1, h.2.1, hk _ _ _ h.2.2⟩
  | 40, _, h =>
    match st, h with
    | [(0, x)], h => exact h
  | 41, _, h => exact hk _ _ _ h
  | 60, _, h =>
    match st, h with
    | (4, y) :: (4, x) :: st', h => exact hk _ _ _ h
  | 61, _, h =>
    match st, h with
    | (4, y) :: (4, x) :: st', h => exact ⟨h.1, hk _ _ _ h.2⟩
  | 62, _, h =>
    match st, h with
    | (0, y) :: (4, x) :: st', h => exact hk _ _ _ h
  | 63, _, h =>
    match st, h with
    | (0, y) :: (4, x) :: st', h => exact hk _ _ _ h
  | 64, _, h =>
    match st, h with
    | (4, x) :: st', h => exact hk _ _ _ h
  | 65, _, h =>
    match st, h with
    | (0, x) :: st', h => exact hk _ _ _ h
  | 66, _, h =>
    match st, h with
    | (4, x) :: st', h => exact hk _ _ _ h
  | 70, _, h =>
    match st, h with
    | (0, y) :: (0, x) :: st', h => exact ⟨h.1, hk _ _ _ h.2⟩
  | 71, _, h =>
    match st, h with
    | (4, y) :: (4, x) :: st', h => exact ⟨h.1, hk _ _ _ h.2⟩
  | 72, _, h =>
    match st, h with
    | (4, x) :: st', h => exact ⟨h.1, hk _ _ _ h.2⟩
theorem ztop {st : List yV} {n : Nat} {v : yV} {r : List yV} (hl : n + 1 ≤ st.length) (e : (st.take (n + 1)).reverse = v :: r) : ∃ r', st.drop n = v :: r' := by
  have e4 : st.take (n + 1) = r.reverse ++ [v] := by
    have := congrArg List.reverse e
    rw [List.reverse_reverse, List.reverse_cons] at this
    exact this
  have hr : r.length = n := by
    have h5 := congrArg List.length e4
    rw [List.length_take, List.length_append, List.length_reverse] at h5
    simp at h5
    omega
  have h2 : (st.take (n + 1))[n]? = some v := by
    rw [e4, List.getElem?_append_right (by simp [hr])]
    simp [hr]
  rw [List.getElem?_take_of_lt (by omega)] at h2
  obtain ⟨h6, h7⟩ := List.getElem?_eq_some_iff.mp h2
  refine ⟨st.drop (n + 1), ?_⟩
  rw [List.drop_eq_getElem_cons h6, h7]
theorem zcall_ok {mi n0 nx : Nat} {rcv : List yV → Prop} {k kg : Nat → zR → List yV → yMem → Prop} {kin : xM → List yV → yMem → (Option yV → yMem → Prop) → Prop} (hk : ∀ pc rg st mem, k pc rg st mem → zG E d M pc rg st mem Post) (hkg : ∀ pc rg st mem, kg pc rg st mem → zG E d M pc rg st mem Post) (hkin : ∀ M' as mem P, xMok xmt M' → ysum as ≤ xMl M' → kin M' as mem P → yCon E d M' as mem P) (h : zcall E d mi n0 nx rg st mem rcv k kg kin) : ∃ M', xmt[mi]? = some M' ∧ rcv (st.take (xMn M' + n0)).reverse ∧ ycall E d mi n0 st mem (fun st' mem' => yG E (yR (d + 1)) M nx (zrl 0 rg) st' mem' 0 0 Post) := by
  unfold zcall at h
  split at h
  · exact h.elim
  · next M' hM' =>
    refine ⟨M', hM', ?_⟩
    split at h
    · exact h.elim
    · next as r hp =>
      obtain ⟨h1, h2, h3⟩ := zpop_ok hp
      rw [List.append_nil] at h2
      subst h2; subst h3
      split at h
      · exact h.elim
      · next hb =>
        rw [Bool.and_eq_true, Nat.ble_eq, Nat.ble_eq] at hb
        obtain ⟨g1, g2, g3⟩ := h
        refine ⟨g1, ?_⟩
        unfold ycall
        rw [hM']
        refine ⟨h1, g2, by rw [← ysum_rev]; exact hb.2, hb.1, ?_⟩
        split at g3
        · exact yCon_mono (hkin M' _ mem _ (xmt_ok mi M' hM') hb.2 g3) (fun r mem' z => hk _ _ _ _ z)
        · exact yCon_mono g3 (fun r mem' z => hkg _ _ _ _ z)
set_option maxHeartbeats 4000000 in
theorem zst (hE : yEok E) {op : xOp} (hok : xok xmt M pc op) {k kg : Nat → zR → List yV → yMem → Prop} {kin : xM → List yV → yMem → (Option yV → yMem → Prop) → Prop} (hk : ∀ pc rg st mem, k pc rg st mem → zG E d M pc rg st mem Post) (hkg : ∀ pc rg st mem, kg pc rg st mem → zG E d M pc rg st mem Post) (hkin : ∀ M' as mem P, xMok xmt M' → ysum as ≤ xMl M' → kin M' as mem P → yCon E d M' as mem P) (h : zstep E d M op rg st mem Post k kg kin) : zG E d M pc rg st mem Post := by
  unfold zG
  refine yst hE (d := d) ⟨Nat.le_refl _, (show 64 * d + 64 ≤ 64 * (d + 1) by omega)⟩ ⟨Nat.le_refl _, Nat.le_refl _⟩ hok ?_
  have del : zis [0, 1, 6, 8, 12, 13, 14, 15, 30, 31, 32, 33, 34, 35, 37, 38, 40, 41, 60, 61, 62, 63, 64, 65, 66, 70, 71, 72] op.1 = true → ystep E (yR (d + 1)) d M op [] st mem Post (fun pc' _ st' mem' => k pc' rg st' mem') → ystep E (yR (d + 1)) d M op (zrl 0 rg) st mem Post (fun pc' lv' st' mem' => yG E (yR (d + 1)) M pc' lv' st' mem' 0 0 Post) :=
    fun hn h => zdel (fun pc st mem z => hk pc rg st mem z) hn h
  obtain ⟨tg, nx, a, b, cs⟩ := op
  match tg, h, del with
  | 0, h, del => exact del rfl h
  | 1, h, del => exact del rfl h
  | 2, h, _ =>
    simp only [zstep] at h
    split at h
    · next v hv =>
      split at h
      · next hb => exact ⟨v, by have := zrl_get rg 0 b v hv; rwa [Nat.zero_add] at this, hb, hk _ _ _ _ h⟩
      · exact h.elim
    · exact h.elim
  | 3, h, _ =>
    match st, h with
    | v :: st', h =>
      simp only [zstep] at h
      split at h
      · next hb =>
        rw [Bool.and_eq_true] at hb
        refine ⟨hb.1, Nat.le_of_ble_eq_true hb.2, ?_⟩
        refine zG_sub (fun q hq => ?_) (hk _ _ _ _ h)
        have := zset_ok rg 0 b q hq
        rwa [Nat.zero_add] at this
      · exact h.elim
  | 4, h, _ =>
    simp only [zstep] at h
    split at h
    · next x hv =>
      split at h
      · next hb =>
        refine ⟨x, by have := zrl_get rg 0 a _ hv; rwa [Nat.zero_add] at this, Nat.le_of_ble_eq_true hb, ?_⟩
        refine zG_sub (fun q hq => ?_) (hk _ _ _ _ h)
        have := zset_ok rg 0 a q hq
        rwa [Nat.zero_add] at this
      · exact h.elim
    · exact h.elim
  | 5, h, _ =>
    match st, h with
    | (0, y) :: (0, x) :: st', h =>
      simp only [zstep] at h
      split at h
      · exact ⟨fun _ => h.1, hk _ _ _ _ h.2⟩
      · exact ⟨fun _ => h.1, hk _ _ _ _ h.2⟩
      · next h9 h10 => exact ⟨fun z => z.elim (fun e => (h9 e).elim) (fun e => (h10 e).elim), hk _ _ _ _ h⟩
  | 6, h, del => exact del rfl h
  | 8, h, del => exact del rfl h
  | 9, h, _ =>
    match st, h with
    | v :: st', h =>
      simp only [zstep] at h
      split at h
      · next e => exact ⟨e, hk _ _ _ _ h⟩
      · exact h.elim
  | 10, h, _ =>
    match st, h with
    | v :: st', h =>
      simp only [zstep] at h
      split at h
      · next e => exact ⟨e, hk _ _ _ _ h⟩
      · exact h.elim
  | 11, h, _ =>
    match st, h with
    | v :: w :: st', h =>
      simp only [zstep] at h
      split at h
      · next e1 e2 => exact ⟨e1, e2, hk _ _ _ _ h⟩
      · exact h.elim
  | 12, h, del => exact del rfl h
  | 13, h, del => exact del rfl h
  | 14, h, del => exact del rfl h
  | 15, h, _ =>
    match st, h with
    | (0, x) :: st', h =>
      simp only [zstep] at h
      split at h
      · next hc =>
        obtain ⟨g1, g2, g3⟩ := zsw_ok hc h
        exact ⟨fun q hq e => hk _ _ _ _ (g1 q hq e), fun e => hk _ _ _ _ (g2 e), g3⟩
      · exact h.elim
  | 16, h, _ =>
    match st, h with
    | (1, i) :: st', h =>
      simp only [zstep] at h
      split at h
      · next ci fs e =>
        split at h
        · next v e1 e2 =>
          have e3 := Nat.eq_of_beq_eq_true e1
          refine ⟨fs, v, ?_, e2, hk _ _ _ _ h⟩
          rw [e, e3]
        · exact h.elim
      · exact h.elim
  | 17, h, _ =>
    match st, cs, h with
    | v :: (1, i) :: st', [q], h =>
      simp only [zstep] at h
      split at h
      · next ci fs e =>
        split at h
        · next w e1 e2 =>
          have e3 := Nat.eq_of_beq_eq_true e1
          split at h
          · next q0 q1 =>
            rw [Bool.and_eq_true, Nat.beq_eq, Nat.beq_eq] at q1
            refine ⟨fs, w, by rw [e, e3], e2, ?_, hk _ _ _ _ h⟩
            rw [q0]
            exact q1
          · next q0 q1 =>
            rw [Bool.and_eq_true, Nat.beq_eq, Nat.beq_eq] at q1
            refine ⟨fs, w, by rw [e, e3], e2, ?_, hk _ _ _ _ h.2⟩
            rw [q0]
            exact ⟨q1.1, h.1, q1.2⟩
          · exact h.elim
        · exact h.elim
      · exact h.elim
  | 18, h, _ =>
    match st, h with
    | (1, i) :: st', h =>
      obtain ⟨t, rs, e1, e2⟩ := zia_ok h.1
      exact ⟨t, _, rs, e1, e2, hk _ _ _ _ h.2⟩
    | (6, i) :: st', h => exact ⟨h.1, hk _ _ _ _ h.2⟩
  | 19, h, _ =>
    match st, h with
    | (0, j) :: (1, i) :: st', h =>
      obtain ⟨⟨h1, h2⟩, h3⟩ := h
      obtain ⟨n, rs, e1, e2⟩ := zar_ok h1 h2
      dsimp only at h2 e2
      rw [e2] at h2
      exact ⟨n, rs, e1, h1, h2, hk _ _ _ _ h3⟩
  | 20, h, _ =>
    match st, h with
    | (0, j) :: (1, i) :: st', h =>
      obtain ⟨n, rs, q, h1, h2, h3, h4, h5⟩ := h
      exact ⟨n, rs, q, h1, h2, h3, h4, hk _ _ _ _ h5⟩
  | 21, h, _ =>
    match st, h with
    | (0, x) :: (0, j) :: (1, i) :: st', h =>
      obtain ⟨⟨h1, h2⟩, h3⟩ := h
      obtain ⟨n, rs, e1, e2⟩ := zar_ok h1 h2
      dsimp only at h2 e2 h3
      rw [e2] at h2
      split at h3
      · exact ⟨n, rs, e1, h1, h2, trivial, hk _ _ _ _ h3⟩
      · exact ⟨n, rs, e1, h1, h2, h3.1, hk _ _ _ _ h3.2⟩
  | 26, h, _ =>
    match st, h with
    | (0, n) :: (0, dp) :: (1, dd) :: (0, sp) :: (1, ss) :: st', h =>
      obtain ⟨h0, h1, h2, h3, h4, h5, h6, h7, h8⟩ := h
      obtain ⟨r0, e0⟩ := zit_ok h1
      obtain ⟨r1, e1⟩ := zit_ok h2
      exact ⟨h0, _, r0, _, r1, e0, e1, h3, h4, h5, h6, h7, hk _ _ _ _ h8⟩
  | 27, h, _ =>
    obtain ⟨M', h1, h2, h3⟩ := zcall_ok hk hkg hkin h
    exact h3
  | 47, h, _ =>
    obtain ⟨M', h1, h2, h3⟩ := zcall_ok hk hkg hkin h
    exact h3
  | 28, h, _ =>
    obtain ⟨M', h1, h2, h3⟩ := zcall_ok hk hkg hkin h
    refine ⟨?_, h3⟩
    dsimp only at h1 ⊢
    rw [h1]
    dsimp only at h2 ⊢
    have hl : xMn M' + 1 ≤ st.length := by
      unfold ycall at h3
      dsimp only at h3
      rw [h1] at h3
      exact h3.1
    split at h2
    · next i r e =>
      obtain ⟨fs, e3⟩ := zio_ok h2
      obtain ⟨r', e5⟩ := ztop hl e
      rw [e5]
      exact ⟨fs, e3⟩
    · exact h2.elim
  | 30, h, _ =>
    match st, h with
    | [(0, x)], h =>
      simp only [zstep] at h
      split at h
      · exact ⟨Or.inl rfl, h⟩
      · exact ⟨Or.inr ⟨rfl, h.1⟩, h.2⟩
      · exact h.elim
  | 31, h, del => exact del rfl h
  | 32, h, del => exact del rfl h
  | 33, h, del => exact del rfl h
  | 34, h, del => exact del rfl h
  | 35, h, del => exact del rfl h
  | 37, h, del => exact del rfl h
  | 38, h, del => exact del rfl h
  | 39, h, _ =>
    obtain ⟨M', h1, h2, h3⟩ := zcall_ok hk hkg hkin h
    refine ⟨?_, h3⟩
    dsimp only at h1 ⊢
    rw [h1]
    dsimp only at h2 ⊢
    have hl : xMn M' + 1 ≤ st.length := by
      unfold ycall at h3
      dsimp only at h3
      rw [h1] at h3
      exact h3.1
    split at h2
    · next i r e =>
      obtain ⟨r', e5⟩ := ztop hl e
      rw [e5]
      exact h2
    · exact h2.elim
  | 40, h, del => exact del rfl h
  | 41, h, del => exact del rfl h
  | 60, h, del => exact del rfl h
  | 61, h, del => exact del rfl h
  | 62, h, del => exact del rfl h
  | 63, h, del => exact del rfl h
  | 64, h, del => exact del rfl h
  | 65, h, del => exact del rfl h
  | 66, h, del => exact del rfl h
  | 67, h, _ =>
    match st, h with
    | (0, j) :: (1, i) :: st', h =>
      obtain ⟨⟨h1, h2⟩, h3⟩ := h
      obtain ⟨n, rs, e1, e2⟩ := zar_ok h1 h2
      rw [e2] at h2
      exact ⟨n, rs, e1, h1, h2, hk _ _ _ _ h3⟩
  | 68, h, _ =>
    match st, h with
    | (4, x) :: (0, j) :: (1, i) :: st', h =>
      obtain ⟨⟨h1, h2⟩, h3⟩ := h
      obtain ⟨n, rs, e1, e2⟩ := zar_ok h1 h2
      rw [e2] at h2
      exact ⟨n, rs, e1, h1, h2, hk _ _ _ _ h3⟩
  | 69, h, _ =>
    match st, h with
    | v :: st', h =>
      simp only [zstep] at h
      split at h
      · next e => exact ⟨e, hk _ _ _ _ h⟩
      · exact h.elim
  | 70, h, del => exact del rfl h
  | 71, h, del => exact del rfl h
  | 72, h, del => exact del rfl h
theorem zvc_ok (hE : yEok E) : ∀ (n : Nat) (cs : List Nat) (d : Nat) (M : xM) (pc : Nat) (rg : zR) (st : List yV) (mem : yMem) (Post : Option yV → yMem → Prop), xMok xmt M → zvc E n cs d M pc rg st mem Post → zG E d M pc rg st mem Post
  | 0, cs, d, M, pc, rg, st, mem, Post, hM, h => h
  | n + 1, cs, d, M, pc, rg, st, mem, Post, hM, h => by
    simp only [zvc] at h
    split at h
    · exact h
    · split at h
      · exact h.elim
      · next op hop =>
        refine zst hE (hM.2.2.2.2.2 _ (xfind_mem hop)) (fun pc rg st mem z => zvc_ok hE n cs d M pc rg st mem Post hM z) (fun pc rg st mem z => z) (fun M' as mem P hM' hs z => ?_) h
        match d, z with
        | d' + 1, z => exact zcon_of hM' hs (zvc_ok hE n [] d' M' 0 _ [] mem P hM' z)
theorem zgo_ok (hE : yEok E) {n : Nat} {cs : List Nat} (hM : xMok xmt M) (h : zgo E n cs d M pc rg st mem Post) : zG E d M pc rg st mem Post := by
  unfold zgo at h
  split at h
  · exact h.elim
  · next op hop =>
    refine zst hE (hM.2.2.2.2.2 _ (xfind_mem hop)) (fun pc rg st mem z => zvc_ok hE n cs d M pc rg st mem Post hM z) (fun pc rg st mem z => z) (fun M' as mem P hM' hs z => ?_) h
    match d, z with
    | d' + 1, z => exact zcon_of hM' hs (zvc_ok hE n [] d' M' 0 _ [] mem P hM' z)
theorem zgk_s (hE : yEok E) (hM : xMok xmt M) (n : Nat) (cs : List Nat) {v : yV} (h : zvc E n cs d M pc rg (v :: st) mem Post) : zgk E d M pc rg st (some v) mem Post := zvc_ok hE n cs d M pc rg (v :: st) mem Post hM h
theorem zgk_n (hE : yEok E) (hM : xMok xmt M) (n : Nat) (cs : List Nat) (h : zvc E n cs d M pc rg st mem Post) : zgk E d M pc rg st none mem Post := zvc_ok hE n cs d M pc rg st mem Post hM h
end ZO
