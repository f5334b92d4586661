theorem cx_dm2 {D : Nat} (a b : Nat) : (a + b) % 2 ^ D = (a % 2 ^ D + b % 2 ^ D) % 2 ^ D ∧ (a + b) / 2 ^ D = a / 2 ^ D + b / 2 ^ D + (a % 2 ^ D + b % 2 ^ D) / 2 ^ D := by
  refine ⟨Nat.add_mod a b _, ?_⟩
  have e1 := (cx_dm (D := D) a b).2
  have e2 := (cx_dm (D := D) b (a % 2 ^ D)).2
  rw [Nat.add_comm b, Nat.add_comm (b % 2 ^ D)] at e2
  omega
theorem cx_room {a b : FJ} : ((∀ f, f < 16 → a f + b f ≤ 1000000000) → f_Braid_hasRoomFor 200 a b = some 1) ∧ ((∃ f, f < 16 ∧ ¬ a f + b f ≤ 1000000000) → f_Braid_hasRoomFor 200 a b = some 0) := by
  unfold f_Braid_hasRoomFor
  constructor
  · intro h
    refine cx_lf (fun n j (s : Unit) => f_Braid_hasRoomFor_L2 a b (fun i2 => some 1) n (nI j)) (fun s => some 1) (fun j => ()) 16 (fun n => ?_) (fun n j hj => ?_) 200 0 (by omega) (by omega)
    · show f_Braid_hasRoomFor_L2 a b _ (n + 1) (nI 16) = _
      rw [f_Braid_hasRoomFor_L2, if_pos (cx_L16 (by omega) (by omega))]
    · show f_Braid_hasRoomFor_L2 a b _ (n + 1) (nI j) = _
      rw [f_Braid_hasRoomFor_L2, if_neg (cx_G16 (by omega)), if_pos (ck_nI (by omega) (by decide)), if_pos (ck_nI (by omega) (by decide)), nI_clamp (by omega), if_pos (h j hj), nI_1]
  · intro h
    obtain ⟨j, ⟨hj, hb⟩, hl⟩ := pk_least (fun f => f < 16 ∧ ¬ a f + b f ≤ 1000000000) h
    have key : ∀ n i, i ≤ j → j < i + n → f_Braid_hasRoomFor_L2 a b (fun i2 => some 1) n (nI i) = some 0 := by
      intro n
      induction n with
      | zero => intro i h1 h2; omega
      | succ n ih =>
        intro i h1 h2
        rw [f_Braid_hasRoomFor_L2, if_neg (cx_G16 (by omega)), if_pos (ck_nI (by omega) (by decide)), if_pos (ck_nI (by omega) (by decide)), nI_clamp (by omega)]
        by_cases q : i = j
        · subst q; rw [if_neg hb]
        · rw [if_pos (Classical.byContradiction fun z => hl i (by omega) ⟨by omega, z⟩), nI_1]
          exact ih (i + 1) (by omega) (by omega)
    exact key 200 0 (by omega) (by omega)
theorem cx_room27 {p q F : Nat} {row : FI} {num : FJ} {sv : Int32} {K : Int32 → Option (Int32 × FI × FJ × Int32)} (hp : p ≤ 1) (hq : q ≤ 1) (hF : F ≤ 16) (r6 : row 6 = nI F) : ((∀ f, f < F → cx_vt p num f + cx_vt q num f ≤ 1000000000) → f_Model_addBraid_L27 (nI p) (nI q) row num sv K 200 0 = K (nI F)) ∧ ((∃ f, f < F ∧ ¬ cx_vt p num f + cx_vt q num f ≤ 1000000000) → f_Model_addBraid_L27 (nI p) (nI q) row num sv K 200 0 = some (-5, row, num, sv)) := by
  constructor
  · intro h
    refine cx_lf (fun n j (s : Unit) => f_Model_addBraid_L27 (nI p) (nI q) row num sv K n (nI j)) (fun s => K (nI F)) (fun j => ()) F (fun n => ?_) (fun n j hj => ?_) 200 0 (by omega) (by omega)
    · show f_Model_addBraid_L27 (nI p) (nI q) row num sv K (n + 1) (nI F) = _
      rw [f_Model_addBraid_L27, if_pos (show ck 6 1002 = true from rfl), cx_n6, r6, if_pos (nI_le (Nat.le_refl _) (by omega))]
    · show f_Model_addBraid_L27 (nI p) (nI q) row num sv K (n + 1) (nI j) = _
      rw [f_Model_addBraid_L27, if_pos (show ck 6 1002 = true from rfl), cx_n6, r6, if_neg (nI_ge hj (by omega)), cx_truthAt (by omega) (by omega), cx_ob, cx_truthAt (by omega) (by omega), cx_ob, if_pos (h j hj), nI_1]
  · intro h
    obtain ⟨j, ⟨hj, hb⟩, hl⟩ := pk_least (fun f => f < F ∧ ¬ cx_vt p num f + cx_vt q num f ≤ 1000000000) h
    have key : ∀ n i, i ≤ j → j < i + n → f_Model_addBraid_L27 (nI p) (nI q) row num sv K n (nI i) = some (-5, row, num, sv) := by
      intro n
      induction n with
      | zero => intro i h1 h2; omega
      | succ n ih =>
        intro i h1 h2
        rw [f_Model_addBraid_L27, if_pos (show ck 6 1002 = true from rfl), cx_n6, r6, if_neg (nI_ge (by omega) (by omega)), cx_truthAt (by omega) (by omega), cx_ob, cx_truthAt (by omega) (by omega), cx_ob]
        by_cases z : i = j
        · subst z; rw [if_neg hb]
        · rw [if_pos (Classical.byContradiction fun w => hl i (by omega) ⟨by omega, w⟩), nI_1]
          exact ih (i + 1) (by omega) (by omega)
    exact key 200 0 (by omega) (by omega)
/-- how far two braids have been added: the counters below j are through -/
def cx_jA (D : Nat) (Sa Sb : Nat → Nat) (j c : Nat) : Nat := if c < j then (Sa c + Sb c) % 2 ^ D else Sa c % 2 ^ D
def cx_jV (D : Nat) (Sa Sb : Nat → Nat) (j c : Nat) : Nat := if c < j then (Sa c + Sb c) / 2 ^ D else Sa c / 2 ^ D
def cx_jW (D : Nat) (Sa Sb : Nat → Nat) (j c : Nat) : Nat := if c < j then (Sa c + Sb c) / 2 ^ D else Sa c / 2 ^ D + Sb c / 2 ^ D
def cx_jc (D : Nat) (Sa Sb : Nat → Nat) (j : Nat) : Nat := cx_sm (fun c => if Sa c / 2 ^ D = 0 then (if (Sa c + Sb c) / 2 ^ D = 0 then 0 else 1) else 0) j
theorem cx_j0 {D N Q : Nat} {Sa Sb : Nat → Nat} {r m r' m' : FI} {n n' n2 : FJ} (h : cx_SEM D N Q Sa r m n) (h2 : cx_SEM D N Q Sb r' m' n') (e : ∀ u, u < 16 → n2 u = n u + n' u) : cx_G N Q (cx_jA D Sa Sb 0) (cx_jV D Sa Sb 0) (cx_jW D Sa Sb 0) r m n2 := by
  refine ⟨fun c hc => ?_, fun u hu => ?_⟩
  · rw [cx_jA, cx_jV, if_neg (Nat.not_lt_zero c), if_neg (Nat.not_lt_zero c)]
    exact h.1 c hc
  · rw [e u hu, h.2 u hu, h2.2 u hu, lN_add, ← cx_sm_add]
    refine congrArg lN (cx_sm_eq fun c hc => ?_)
    rw [cx_jW, if_neg (Nat.not_lt_zero c)]
    by_cases z : cx_bt (cx_pU N Q c) u = true
    · rw [if_pos z, if_pos z, if_pos z]
    · rw [if_neg z, if_neg z, if_neg z]
/-- one counter further -/
theorem cx_j1 {D N Q j : Nat} {Sa Sb : Nat → Nat} {r m m2 : FI} {n : FJ} (hj : j < 24) (h : cx_G N Q (fun x => if x = j then (cx_jA D Sa Sb j j + Sb j % 2 ^ D) % 2 ^ D else cx_jA D Sa Sb j x) (fun x => if x = j then cx_jV D Sa Sb j j + (cx_jA D Sa Sb j j + Sb j % 2 ^ D) / 2 ^ D else cx_jV D Sa Sb j x) (fun x => if x = j then cx_jW D Sa Sb j j + (cx_jA D Sa Sb j j + Sb j % 2 ^ D) / 2 ^ D else cx_jW D Sa Sb j x) r m n)
    (e0 : ∀ x, x < 24 → x ≠ j → m2 x = m x) (e1 : m2 j = if (Sa j + Sb j) / 2 ^ D = 0 then 0 else 1) : cx_G N Q (cx_jA D Sa Sb (j + 1)) (cx_jV D Sa Sb (j + 1)) (cx_jW D Sa Sb (j + 1)) r m2 n := by
  obtain ⟨d1, d2⟩ := cx_dm2 (D := D) (Sa j) (Sb j)
  have ea : ∀ x, (if x = j then (cx_jA D Sa Sb j j + Sb j % 2 ^ D) % 2 ^ D else cx_jA D Sa Sb j x) = cx_jA D Sa Sb (j + 1) x := by
    intro x
    by_cases q : x = j
    · subst q
      rw [if_pos rfl, cx_jA, if_neg (Nat.lt_irrefl x), cx_jA, if_pos (by omega), d1]
    · rw [if_neg q, cx_jA, cx_jA]
      by_cases z : x < j
      · rw [if_pos z, if_pos (by omega)]
      · rw [if_neg z, if_neg (by omega)]
  have ew : ∀ x, (if x = j then cx_jW D Sa Sb j j + (cx_jA D Sa Sb j j + Sb j % 2 ^ D) / 2 ^ D else cx_jW D Sa Sb j x) = cx_jW D Sa Sb (j + 1) x := by
    intro x
    by_cases q : x = j
    · subst q
      rw [if_pos rfl, cx_jA, if_neg (Nat.lt_irrefl x), cx_jW, if_neg (Nat.lt_irrefl x), cx_jW, if_pos (by omega), d2]
    · rw [if_neg q, cx_jW, cx_jW]
      by_cases z : x < j
      · rw [if_pos z, if_pos (by omega)]
      · rw [if_neg z, if_neg (by omega)]
  refine ⟨fun c hc => ⟨?_, ?_⟩, fun u hu => ?_⟩
  · rw [(h.1 c hc).1]; exact congrArg nI (ea c)
  · by_cases q : c = j
    · have hv : cx_jV D Sa Sb (j + 1) c = (Sa j + Sb j) / 2 ^ D := by
        subst q
        exact if_pos (by omega)
      rw [hv]
      subst q
      exact e1
    · rw [e0 c hc q, (h.1 c hc).2]
      have ev : (if c = j then cx_jV D Sa Sb j j + (cx_jA D Sa Sb j j + Sb j % 2 ^ D) / 2 ^ D else cx_jV D Sa Sb j c) = cx_jV D Sa Sb (j + 1) c := by
        rw [if_neg q]
        unfold cx_jV
        by_cases z : c < j
        · rw [if_pos z, if_pos (by omega)]
        · rw [if_neg z, if_neg (by omega)]
      exact congrArg (fun z : Nat => if z = 0 then (0 : Int32) else 1) ev
  · rw [h.2 u hu]
    refine congrArg lN (cx_sm_eq fun c hc => ?_)
    dsimp only
    rw [ew c]
theorem cx_jend {D N Q M : Nat} {Sa Sb : Nat → Nat} {r m : FI} {n : FJ} (h0 : ∀ c, c < 24 → M ≤ c → Sa c = 0 ∧ Sb c = 0) (h : cx_G N Q (cx_jA D Sa Sb M) (cx_jV D Sa Sb M) (cx_jW D Sa Sb M) r m n) : cx_SEM D N Q (fun c => Sa c + Sb c) r m n := by
  refine cx_G_S (cx_G_eq h fun c hc => ?_)
  rw [cx_jA, cx_jV, cx_jW]
  by_cases z : c < M
  · rw [if_pos z, if_pos z, if_pos z]; exact ⟨rfl, rfl, rfl⟩
  · rw [if_neg z, if_neg z, if_neg z, (h0 c hc (by omega)).1, (h0 c hc (by omega)).2]
    simp
theorem cx_jcm {D : Nat} {Sa Sb : Nat → Nat} {M : Nat} (hM : M ≤ 24) (h0 : ∀ c, c < 24 → M ≤ c → Sa c = 0 ∧ Sb c = 0) : cx_jc D Sa Sb 24 = cx_jc D Sa Sb M := cx_sm_ext hM fun i h1 h2 => by
  rw [(h0 i h2 h1).1, (h0 i h2 h1).2]
  simp
theorem cx_mark2 {D : Nat} (a b : Nat) : (if (if a / 2 ^ D + (a % 2 ^ D + b % 2 ^ D) / 2 ^ D = 0 then (0 : Int32) else 1) < (if b / 2 ^ D = 0 then 0 else 1) then (if b / 2 ^ D = 0 then (0 : Int32) else 1) else (if a / 2 ^ D + (a % 2 ^ D + b % 2 ^ D) / 2 ^ D = 0 then 0 else 1)) = if (a + b) / 2 ^ D = 0 then 0 else 1 := by
  have d2 := (cx_dm2 (D := D) a b).2
  have n1 := Nat.zero_le (a / 2 ^ D)
  have n2 := Nat.zero_le (b / 2 ^ D)
  have n3 := Nat.zero_le ((a % 2 ^ D + b % 2 ^ D) / 2 ^ D)
  by_cases z1 : a / 2 ^ D + (a % 2 ^ D + b % 2 ^ D) / 2 ^ D = 0
  · by_cases z2 : b / 2 ^ D = 0
    · rw [if_pos z1, if_pos z2, if_neg (by decide), if_pos (by omega)]
    · rw [if_pos z1, if_neg z2, if_pos (by decide), if_neg (by omega)]
  · by_cases z2 : b / 2 ^ D = 0
    · rw [if_neg z1, if_pos z2, if_neg (by decide), if_neg (by omega)]
    · rw [if_neg z1, if_neg z2, if_neg (by decide), if_neg (by omega)]
theorem cx_join {D N Q : Nat} {Sa Sb : Nat → Nat} {t t' n n' : FJ} {r m r' m' : FI} (hD : D ≤ 8) (hN : 1 ≤ N ∧ N ≤ 16) (hQ : Q ≤ 3) (h : cx_SEM D N Q Sa r m n) (h' : cx_SEM D N Q Sb r' m' n') : ∃ (T : FJ) (r2 m2 : FI) (n2 : FJ), f_Braid_join 200 t r m n (nI D) (nI N) (nI Q) t' r' m' n' = some (nI (cx_jc D Sa Sb 24), T, r2, m2, n2) ∧ cx_SEM D N Q (fun c => Sa c + Sb c) r2 m2 n2 ∧ ∀ f, T f = if f < 16 then t f + t' f else t f := by
  unfold f_Braid_join
  generalize hK : (fun (i9 : Int32) (c10 : FJ) => f_Braid_join_L38 200 (nI D) (nI N) (nI Q) r' m' (fun i21 i22 c23 c24 c25 => f_Braid_join_L115 t' (fun i34 c35 => some (i21, c35, c23, c24, c25)) 200 0 t) 200 0 0 r m c10) = K
  obtain ⟨g, hg, e1⟩ := cx_lp (fun k j (s : FJ) => f_Braid_join_L5 n' K k (nI j) s) (fun s => K (nI 16) s) (fun j s => ∀ u, s u = if u < j then n u + n' u else n u) 16
    (fun k s _ => by
      show f_Braid_join_L5 n' K (k + 1) (nI 16) s = _
      rw [f_Braid_join_L5, if_pos (cx_L16 (by omega) (by omega))])
    (fun k j s hj hP => by
      refine ⟨vp_updL s j (s j + n' j), fun u => ?_, ?_⟩
      · by_cases q : u = j
        · subst q; rw [pk_uLs, hP u, if_neg (Nat.lt_irrefl u), if_pos (by omega)]
        · rw [pk_uLn q, hP u]
          by_cases z : u < j
          · rw [if_pos z, if_pos (by omega)]
          · rw [if_neg z, if_neg (by omega)]
      · show f_Braid_join_L5 n' K (k + 1) (nI j) s = _
        rw [f_Braid_join_L5, if_neg (cx_G16 (by omega))]
        simp (disch := omega) only [cx_ck, if_true, nI_clamp, nI_1]) 200 0 n (by omega) (by omega) (fun u => by rw [if_neg (Nat.not_lt_zero u)])
  rw [show f_Braid_join_L5 n' K 200 0 n = K (nI 16) g from e1, ← hK]
  obtain ⟨s, hs, e2⟩ := cx_lp (fun k j (s : Int32 × FI × FI × FJ) => f_Braid_join_L38 200 (nI D) (nI N) (nI Q) r' m' (fun i21 i22 c23 c24 c25 => f_Braid_join_L115 t' (fun i34 c35 => some (i21, c35, c23, c24, c25)) 200 0 t) k s.1 (nI j) s.2.1 s.2.2.1 s.2.2.2) (fun s => f_Braid_join_L115 t' (fun i34 c35 => some (s.1, c35, s.2.1, s.2.2.1, s.2.2.2)) 200 0 t)
    (fun j s => s.1 = nI (cx_jc D Sa Sb j) ∧ cx_G N Q (cx_jA D Sa Sb j) (cx_jV D Sa Sb j) (cx_jW D Sa Sb j) s.2.1 s.2.2.1 s.2.2.2) 24
    (fun k s _ => by
      show f_Braid_join_L38 200 (nI D) (nI N) (nI Q) r' m' _ (k + 1) s.1 (nI 24) s.2.1 s.2.2.1 s.2.2.2 = _
      rw [f_Braid_join_L38, if_pos (cx_L24 (by omega) (by omega))])
    (fun k j s hj hP => by
      have hA : cx_jA D Sa Sb j j = Sa j % 2 ^ D := by rw [cx_jA, if_neg (Nat.lt_irrefl j)]
      have hV : cx_jV D Sa Sb j j = Sa j / 2 ^ D := by rw [cx_jV, if_neg (Nat.lt_irrefl j)]
      have l1 := cx_2D hD (Sa j)
      have l2 := cx_2D hD (Sb j)
      obtain ⟨ra, ma, na, g1, g2, g3⟩ := cx_raiseG (v := Sb j % 2 ^ D) hD hN hQ hj (by omega) (by rw [hA]; omega) hP.2
      have em : ma j = if Sa j / 2 ^ D + (Sa j % 2 ^ D + Sb j % 2 ^ D) / 2 ^ D = 0 then 0 else 1 := (g2.1 j hj).2.trans (congrArg (fun z : Nat => if z = 0 then (0 : Int32) else 1) ((if_pos rfl).trans (by rw [hA, hV])))
      have eo : s.2.2.1 j = if Sa j / 2 ^ D = 0 then 0 else 1 := by
        rw [(hP.2.1 j hj).2, hV]
      have en : (if ma j < m' j then m' j else ma j) = if (Sa j + Sb j) / 2 ^ D = 0 then 0 else 1 := by
        rw [em, (h'.1 j hj).2]; exact cx_mark2 (Sa j) (Sb j)
      refine ⟨(nI (cx_jc D Sa Sb (j + 1)), ra, upd ma j (if ma j < m' j then m' j else ma j), na), ⟨rfl, cx_j1 hj g2 (fun x _ q => pk_un q) (pk_us.trans en)⟩, ?_⟩
      show f_Braid_join_L38 200 (nI D) (nI N) (nI Q) r' m' _ (k + 1) s.1 (nI j) s.2.1 s.2.2.1 s.2.2.2 = f_Braid_join_L38 200 (nI D) (nI N) (nI Q) r' m' _ k (nI (cx_jc D Sa Sb (j + 1))) (nI (j + 1)) ra (upd ma j (if ma j < m' j then m' j else ma j)) na
      have ec : s.1 + (upd ma j (if ma j < m' j then m' j else ma j) j - s.2.2.1 j) = nI (cx_jc D Sa Sb (j + 1)) := by
        rw [pk_us, en, eo, hP.1]
        have d2 := (cx_dm2 (D := D) (Sa j) (Sb j)).2
        have n1 := Nat.zero_le (Sa j / 2 ^ D)
        have n2 := Nat.zero_le (Sb j / 2 ^ D)
        have n3 := Nat.zero_le ((Sa j % 2 ^ D + Sb j % 2 ^ D) / 2 ^ D)
        unfold cx_jc
        rw [cx_sm, ← nI_add]
        refine congrArg (_ + ·) ?_
        by_cases z1 : Sa j / 2 ^ D = 0
        · by_cases z2 : (Sa j + Sb j) / 2 ^ D = 0
          · rw [if_pos z1, if_pos z2, if_pos z1, if_pos z2]; rfl
          · rw [if_pos z1, if_neg z2, if_pos z1, if_neg z2]; rfl
        · rw [if_neg z1, if_neg (show ¬ (Sa j + Sb j) / 2 ^ D = 0 by omega), if_neg z1]; rfl
      rw [f_Braid_join_L38, if_neg (cx_G24 (by omega)), if_pos (ck_nI hj (by decide)), if_pos (ck_nI hj (by decide)), nI_clamp (show j < 2 ^ 31 by omega), (h'.1 j hj).1, nI_l (show Sb j % 2 ^ D < 2 ^ 31 by omega), g1, cx_ob]
      simp (disch := omega) only [cx_ck, if_true, nI_1]
      rw [ec]) 200 0 (0, r, m, g) (by omega) (by omega) ⟨rfl, cx_j0 h h' (fun u hu => (hg u).trans (if_pos hu))⟩
  obtain ⟨T, hT, e3⟩ := cx_lp (fun k j (w : FJ) => f_Braid_join_L115 t' (fun i34 c35 => some (s.1, c35, s.2.1, s.2.2.1, s.2.2.2)) k (nI j) w) (fun w => some (s.1, w, s.2.1, s.2.2.1, s.2.2.2)) (fun j w => ∀ f, w f = if f < j then t f + t' f else t f) 16
    (fun k w _ => by
      show f_Braid_join_L115 t' _ (k + 1) (nI 16) w = _
      rw [f_Braid_join_L115, if_pos (cx_L16 (by omega) (by omega))])
    (fun k j w hj hP => by
      refine ⟨vp_updL w j (w j + t' j), fun u => ?_, ?_⟩
      · by_cases q : u = j
        · subst q; rw [pk_uLs, hP u, if_neg (Nat.lt_irrefl u), if_pos (by omega)]
        · rw [pk_uLn q, hP u]
          by_cases z : u < j
          · rw [if_pos z, if_pos (by omega)]
          · rw [if_neg z, if_neg (by omega)]
      · show f_Braid_join_L115 t' _ (k + 1) (nI j) w = _
        rw [f_Braid_join_L115, if_neg (cx_G16 (by omega))]
        simp (disch := omega) only [cx_ck, if_true, nI_clamp, nI_1]) 200 0 t (by omega) (by omega) (fun u => by rw [if_neg (Nat.not_lt_zero u)])
  refine ⟨T, s.2.1, s.2.2.1, s.2.2.2, ?_, cx_jend (M := 24) (fun c h1 h2 => by omega) hs.2, hT⟩
  refine e2.trans (e3.trans ?_)
  rw [hs.1]
theorem cx_mjoin {M D N Q p q : Nat} {Sa Sb : Nat → Nat} {row : FI} {num : FJ} {K : Int32 → FI → FJ → Option (Int32 × FI × FJ × Int32)} (hp : p ≤ 1) (hq : q ≤ 1) (hpq : p ≠ q) (hM : M ≤ 24) (hD : 1 ≤ D ∧ D ≤ 8) (hN : 1 ≤ N ∧ N ≤ 16) (hQ : Q ≤ 3) (r0 : row 0 = nI M) (r1 : row 1 = nI D) (r3 : row 3 = nI N) (r4 : row 4 = nI Q) (hz : ∀ c, c < 24 → M ≤ c → Sa c = 0 ∧ Sb c = 0) (h : cx_SEM D N Q Sa (cx_vr q row) (cx_vm q row) (cx_vn q num)) (h' : cx_SEM D N Q Sb (cx_vr p row) (cx_vm p row) (cx_vn p num)) :
    ∃ (row' : FI) (num' : FJ), f_Model_addBraid_L73 (nI p) (nI q) (fun i23 c24 => f_Model_addBraid_L115 200 (nI p) (nI q) (fun i55 i56 c57 c58 => K i55 c57 c58) 200 0 0 row c24) 200 0 num = K (nI (cx_jc D Sa Sb 24)) row' num' ∧ cx_SEM D N Q (fun c => Sa c + Sb c) (cx_vr q row') (cx_vm q row') (cx_vn q num') ∧ (∀ f, f < 16 → cx_vt q num' f = cx_vt q num f + cx_vt p num f) ∧ (∀ y, ¬ (23 + 48 * q ≤ y ∧ y < 23 + 48 * q + 48) → row' y = row y) ∧ (∀ y, ¬ (32 * q ≤ y ∧ y < 32 * q + 32) → num' y = num y) := by
  generalize hK : (fun (i23 : Int32) (c24 : FJ) => f_Model_addBraid_L115 200 (nI p) (nI q) (fun i55 i56 c57 c58 => K i55 c57 c58) 200 0 0 row c24) = KK
  obtain ⟨g, hg, e1⟩ := cx_lp (fun k j (s : FJ) => f_Model_addBraid_L73 (nI p) (nI q) KK k (nI j) s) (fun s => KK (nI 32) s) (fun j s => ∀ y, s y = if 32 * q ≤ y ∧ y < 32 * q + j then num y + num (32 * p + (y - 32 * q)) else num y) 32
    (fun k s _ => by
      show f_Model_addBraid_L73 (nI p) (nI q) KK (k + 1) (nI 32) s = _
      rw [f_Model_addBraid_L73, if_pos (cx_L32 (by omega) (by omega))])
    (fun k j s hj hP => by
      refine ⟨vp_updL s (32 * q + j) (s (32 * q + j) + s (32 * p + j)), fun y => ?_, ?_⟩
      · by_cases w : y = 32 * q + j
        · subst w
          rw [pk_uLs, hP (32 * q + j), hP (32 * p + j), if_neg (by omega), if_neg (by omega), if_pos (by omega), show 32 * q + j - 32 * q = j by omega]
        · rw [pk_uLn w, hP y]
          by_cases z : 32 * q ≤ y ∧ y < 32 * q + j
          · rw [if_pos z, if_pos (by omega)]
          · rw [if_neg z, if_neg (by omega)]
      · show f_Model_addBraid_L73 (nI p) (nI q) KK (k + 1) (nI j) s = _
        rw [f_Model_addBraid_L73, if_neg (cx_G32 (by omega))]
        simp (disch := omega) only [cx_m32, nI_add, cx_ck, if_true, nI_clamp, nI_1]) 200 0 num (by omega) (by omega) (fun y => by rw [if_neg (by omega)])
  rw [show f_Model_addBraid_L73 (nI p) (nI q) KK 200 0 num = KK (nI 32) g from e1, ← hK]
  have G0 : cx_G N Q (cx_jA D Sa Sb 0) (cx_jV D Sa Sb 0) (cx_jW D Sa Sb 0) (cx_vr q row) (cx_vm q row) (cx_vn q g) := cx_j0 h h' fun u hu => by
    show g (32 * q + 16 + u) = num (32 * q + 16 + u) + num (32 * p + 16 + u)
    rw [hg, if_pos (by omega)]
    exact congrArg (_ + ·) (congrArg num (by omega))
  obtain ⟨s, hs, e2⟩ := cx_lp (fun k j (s : Int32 × FI × FJ) => f_Model_addBraid_L115 200 (nI p) (nI q) (fun i55 i56 c57 c58 => K i55 c57 c58) k s.1 (nI j) s.2.1 s.2.2) (fun s => K s.1 s.2.1 s.2.2)
    (fun j s => s.1 = nI (cx_jc D Sa Sb j) ∧ cx_G N Q (cx_jA D Sa Sb j) (cx_jV D Sa Sb j) (cx_jW D Sa Sb j) (cx_vr q s.2.1) (cx_vm q s.2.1) (cx_vn q s.2.2) ∧ (∀ y, ¬ (23 + 48 * q ≤ y ∧ y < 23 + 48 * q + 48) → s.2.1 y = row y) ∧ (∀ y, ¬ (32 * q + 16 ≤ y ∧ y < 32 * q + 32) → s.2.2 y = g y)) M
    (fun k s hP => by
      show f_Model_addBraid_L115 200 (nI p) (nI q) _ (k + 1) s.1 (nI M) s.2.1 s.2.2 = _
      rw [f_Model_addBraid_L115, if_pos (show ck 0 1002 = true from rfl), cx_n0, hP.2.2.1 0 (by omega), r0, if_pos (nI_le (Nat.le_refl _) (by omega))])
    (fun k j s hj hP => by
      have hA : cx_jA D Sa Sb j j = Sa j % 2 ^ D := by rw [cx_jA, if_neg (Nat.lt_irrefl j)]
      have hV : cx_jV D Sa Sb j j = Sa j / 2 ^ D := by rw [cx_jV, if_neg (Nat.lt_irrefl j)]
      have l1 := cx_2D hD.2 (Sa j)
      have l2 := cx_2D hD.2 (Sb j)
      have f0 := fun y hy => hP.2.2.1 y hy
      obtain ⟨zz, ra, na, g1, g2, g3, g4, g5⟩ := cx_growsG (b := q) (v := Sb j % 2 ^ D) (c := j) (by omega) hD hN hQ (by omega) (by omega) ((f0 1 (by omega)).trans r1) ((f0 3 (by omega)).trans r3) ((f0 4 (by omega)).trans r4) (by rw [hA]; omega) hP.2.1
      have eo : cx_vm q s.2.1 j = if Sa j / 2 ^ D = 0 then 0 else 1 := by
        rw [(hP.2.1.1 j (by omega)).2, hV]
      have em : cx_vm q ra j = if Sa j / 2 ^ D + (Sa j % 2 ^ D + Sb j % 2 ^ D) / 2 ^ D = 0 then 0 else 1 := (g2.1 j (by omega)).2.trans (congrArg (fun z : Nat => if z = 0 then (0 : Int32) else 1) ((if_pos rfl).trans (by rw [hA, hV])))
      have ep : cx_vm p ra j = if Sb j / 2 ^ D = 0 then 0 else 1 := by
        show ra (23 + 48 * p + 24 + j) = _
        rw [g4 _ (by omega), f0 _ (by omega)]
        exact (h'.1 j (by omega)).2
      have er : cx_vr p s.2.1 j = nI (Sb j % 2 ^ D) := (f0 (23 + 48 * p + j) (by omega)).trans (h'.1 j (by omega)).1
      have d2 := (cx_dm2 (D := D) (Sa j) (Sb j)).2
      have n1 := Nat.zero_le (Sa j / 2 ^ D)
      have n2 := Nat.zero_le (Sb j / 2 ^ D)
      have n3 := Nat.zero_le ((Sa j % 2 ^ D + Sb j % 2 ^ D) / 2 ^ D)
      have m01 : ∀ (X : Nat), (if X = 0 then (0 : Int32) else 1) = 0 ∨ (if X = 0 then (0 : Int32) else 1) = 1 := fun X => by
        by_cases z : X = 0
        · rw [if_pos z]; exact Or.inl rfl
        · rw [if_neg z]; exact Or.inr rfl
      generalize hR : (if Sb j / 2 ^ D = 0 then ra else upd ra (23 + 48 * q + 24 + j) 1) = R2
      have hRo : ∀ y, y ≠ 23 + 48 * q + 24 + j → R2 y = ra y := fun y hy => by
        rw [← hR]
        by_cases z : Sb j / 2 ^ D = 0
        · rw [if_pos z]
        · rw [if_neg z, pk_un hy]
      have hRj : cx_vm q R2 j = if (Sa j + Sb j) / 2 ^ D = 0 then 0 else 1 := by
        show R2 (23 + 48 * q + 24 + j) = _
        rw [← hR]
        by_cases z : Sb j / 2 ^ D = 0
        · rw [if_pos z]
          refine em.trans ?_
          rw [d2, z, Nat.add_zero]
        · rw [if_neg z, pk_us, if_neg (by omega)]
      refine ⟨(nI (cx_jc D Sa Sb (j + 1)), R2, na), ⟨rfl, ?_, fun y hy => (hRo y (by omega)).trans ((g4 y hy).trans (hP.2.2.1 y hy)), fun y hy => (g5 y hy).trans (hP.2.2.2 y hy)⟩, ?_⟩
      · have G1 := cx_j1 (m2 := cx_vm q R2) (by omega) g2 (fun x _ w => hRo _ (by omega)) hRj
        exact ⟨fun c hc => ⟨(hRo _ (by omega)).trans (G1.1 c hc).1, (G1.1 c hc).2⟩, G1.2⟩
      · show f_Model_addBraid_L115 200 (nI p) (nI q) _ (k + 1) s.1 (nI j) s.2.1 s.2.2 = f_Model_addBraid_L115 200 (nI p) (nI q) _ k (nI (cx_jc D Sa Sb (j + 1))) (nI (j + 1)) R2 na
        have j181 : ∀ B, f_Model_addBraid_J181 (nI q) s.1 (nI j) (cx_vm q s.2.1 j) R2 na B = B (nI (cx_jc D Sa Sb (j + 1))) (nI (j + 1)) R2 na := by
          intro B
          have ec : cx_jc D Sa Sb (j + 1) = cx_jc D Sa Sb j + (if Sa j / 2 ^ D = 0 then (if (Sa j + Sb j) / 2 ^ D = 0 then 0 else 1) else 0) := rfl
          rw [f_Model_addBraid_J181, eo, cx_marked (by omega) (by omega) (by rw [hRj]; exact m01 _), cx_ob, hRj, ec, hP.1, nI_1]
          by_cases z1 : Sa j / 2 ^ D = 0
          · by_cases z2 : (Sa j + Sb j) / 2 ^ D = 0
            · rw [if_pos z1, if_pos rfl, if_pos z2, if_pos rfl, if_pos z1, if_pos z2]
              exact congrArg (fun z => B z _ _ _) (nI_add _ 0)
            · rw [if_pos z1, if_pos rfl, if_neg z2, if_neg cx_i1, if_pos z1, if_neg z2]
              exact congrArg (fun z => B z _ _ _) (nI_add _ 1)
          · rw [if_neg z1, if_neg cx_i1, if_neg z1]
            exact congrArg (fun z => B z _ _ _) (nI_add _ 0)
        rw [f_Model_addBraid_L115, if_pos (show ck 0 1002 = true from rfl), cx_n0, f0 0 (by omega), r0, if_neg (nI_ge hj (by omega)), cx_marked (by omega) (by omega) (by rw [eo]; exact m01 _), cx_ob, cx_restAt (by omega) (by omega), cx_ob, er, nI_l (show Sb j % 2 ^ D < 2 ^ 31 by omega), g1, cx_ob, cx_marked (by omega) (by omega) (by rw [ep]; exact m01 _), cx_ob, ep]
        by_cases z : Sb j / 2 ^ D = 0
        · rw [if_pos z] at hR
          subst hR
          rw [if_pos z, if_pos rfl]
          exact j181 _
        · rw [if_neg z] at hR
          rw [if_neg z, if_neg cx_i1]
          simp (disch := omega) only [cx_m48, cx_p23, nI_add, cx_q24, cx_ck, if_true, nI_clamp]
          rw [hR]
          exact j181 _) 200 0 (0, row, g) (by omega) (by omega) ⟨rfl, G0, fun _ _ => rfl, fun _ _ => rfl⟩
  refine ⟨s.2.1, s.2.2, ?_, cx_jend hz hs.2.1, fun f hf => ?_, hs.2.2.1, fun y hy => ?_⟩
  · refine e2.trans ?_
    rw [hs.1, cx_jcm hM hz]
  · show s.2.2 (32 * q + f) = num (32 * q + f) + num (32 * p + f)
    rw [hs.2.2.2 _ (by omega), hg, if_pos (by omega), show 32 * q + f - 32 * q = f by omega]
  · rw [hs.2.2.2 y (by omega), hg, if_neg (by omega)]
theorem cx_SS_add {M K : Nat} {ks : FI} {t t' T : FJ} (h1 : ∀ f, f < 16 → ∃ a, a ≤ 1000000000 ∧ t f = lN a) (h2 : ∀ f, f < 16 → ∃ a, a ≤ 1000000000 ∧ t' f = lN a) (hT : ∀ f, f < 16 → T f = t f + t' f) (c : Nat) : cx_SS M K ks t c + cx_SS M K ks t' c = cx_SS M K ks T c := by
  unfold cx_SS
  rw [← cx_sm_add]
  refine cx_sm_eq fun f hf => ?_
  obtain ⟨a, ha, ea⟩ := h1 f hf
  obtain ⟨b, hb, eb⟩ := h2 f hf
  rw [hT f hf, ea, eb, lN_add, cx_lcl (show a < 2 ^ 63 by omega), cx_lcl (show b < 2 ^ 63 by omega), cx_lcl (show a + b < 2 ^ 63 by omega)]
  by_cases z : cx_bt (cx_pK M K (ks f).toNatClampNeg) c = true
  · rw [if_pos z, if_pos z, if_pos z]
  · rw [if_neg z, if_neg z, if_neg z]
theorem cx_SS_z {M K : Nat} {ks : FI} {T : FJ} (hM : 2 ≤ M ∧ M ≤ 24) : ∀ c, c < 24 → M ≤ c → cx_SS M K ks T c = 0 := fun c hc h => cx_sm_z fun f _ => if_neg fun z => by
  have := cx_pK_lt (by omega) hM.2 (by omega) z
  omega
theorem p_addBraid (x y : Int32) {M D K N Q R F : Nat} {ks : FI} {t1 : FJ} {r1 m1 : FI} {n1 : FJ} {t2 : FJ} {r2 m2 : FI} {n2 : FJ} {h : HistoryS} {saved : Int32} {row : FI} {num : FJ} (h0 : RS 0 (nI M) (nI D) (nI K) (nI N) (nI Q) (nI R) (nI F) ks t1 r1 m1 n1 t2 r2 m2 n2 row num) (hn : SOKn M D K N Q R F ks t1 r1 m1 n1 t2 r2 m2 n2) (H : HR h saved row num) : OUTP (f_CB_addBraid 200 x y ((((((nI M, nI D), nI K), ((nI N, nI Q), nI R)), nI F), ks), (((t1, r1), (m1, n1)), ((t2, r2), (m2, n2)))) h) (f_Model_addBraid 200 x y row num saved) := by
  have hn0 := hn
  obtain ⟨⟨_, _, _, _, _, _, u6⟩, _, _, _, d30, d40⟩ := RS0_out h0
  obtain ⟨h', row', num', sv, g1, g2, g3, _, _, g6⟩ := p_push (s := ((((((nI M, nI D), nI K), ((nI N, nI Q), nI R)), nI F), ks), (((t1, r1), (m1, n1)), ((t2, r2), (m2, n2))))) h0 (sok_in hn) H
  have g6 : RS 0 (nI M) (nI D) (nI K) (nI N) (nI Q) (nI R) (nI F) ks t1 r1 m1 n1 t2 r2 m2 n2 row' num' := g6
  obtain ⟨_, _, T1, T2, Z1, Z2, v1, v2⟩ := st_all g6 hn
  obtain ⟨⟨f0, f1, f2, f3, f4, f5, f6⟩, dk, d1, d2, d3, d4⟩ := RS0_out g6
  obtain ⟨s1, s2, s3, s4, s5, s6, s7, s8, s9, s10, s11, s12, s13⟩ := hn
  unfold f_CB_addBraid f_Model_addBraid
  rw [p_isBraid.1, p_isBraid.2, p_isBraid.1, p_isBraid.2]
  by_cases hx : (0 : Int32) ≤ x ∧ x ≤ 1
  · by_cases hy : (0 : Int32) ≤ y ∧ y ≤ 1
    · simp only [if_pos hx, if_pos hy, cx_ob, cx_i10, if_false]
      rcases braid_cases hx with rfl | rfl
      · rcases braid_cases hy with rfl | rfl
        · simp only [eq_self, if_true]
          exact OUTP_same h0 hn0 H
        · simp only [eq_self, if_true, if_false, cx_i10, show ((0 : Int32) = 1) = False from eq_false (by decide)]
          by_cases hr : ∀ f, f < 16 → t2 f + t1 f ≤ 1000000000
          · have r1c := (cx_room (a := t2) (b := t1)).1 hr
            have r2c : ∀ K, f_Model_addBraid_L27 0 1 row num saved K 200 0 = K (nI F) := fun K => (cx_room27 (p := 0) (q := 1) (row := row) (num := num) (sv := saved) (K := K) (by omega) (by omega) s7 u6).1 (fun f hf => by
              rw [(d30 f (by omega)).1, (d40 f (by omega)).1, Int64.add_comm]
              exact hr f (by omega))
            obtain ⟨T, ra, ma, na, c1, c2, hT⟩ := cx_join (t := t2) (t' := t1) s2.2 s4 s5.2 s13 s12
            obtain ⟨row2, num2, g10, c3, g7, g8, g9⟩ := cx_mjoin (p := 0) (q := 1) (row := row') (num := num') (K := fun i55 c57 c58 => some (i55, c57, c58, sv)) (by omega) (by omega) (by omega) s1.2 s2 s4 s5.2 f0 f1 f3 f4 (fun c h1 h2 => ⟨cx_SS_z s1 c h1 h2, cx_SS_z s1 c h1 h2⟩) v2 v1
            have g10 : f_Model_addBraid_L73 0 1 (fun i23 c24 => f_Model_addBraid_L115 200 0 1 (fun i55 i56 c57 c58 => some (i55, c57, c58, sv)) 200 0 0 row' c24) 200 0 num' = some (nI (cx_jc D (cx_SS M K ks t2) (cx_SS M K ks t1) 24), row2, num2, sv) := g10
            have FN := cx_SEM_fn c3 c2
            have SE : cx_SEM D N Q (cx_SS M K ks T) ra ma na := cx_SEM_eq c2 fun c _ => cx_SS_add T2 T1 (fun f hf => (hT f).trans (if_pos hf)) c
            simp only [r1c, r2c, cx_ob, cx_i10, cx_i01, if_true, if_false, eq_self, g1, g2, c1, g10]
            refine ⟨_, _, rfl, rfl, rfl, ⟨RS0_mk ⟨(g8 _ (by omega)).trans f0, (g8 _ (by omega)).trans f1, (g8 _ (by omega)).trans f2, (g8 _ (by omega)).trans f3, (g8 _ (by omega)).trans f4, (g8 _ (by omega)).trans f5, (g8 _ (by omega)).trans f6⟩ (fun i hi => (g8 _ (by omega)).trans (dk i hi))
              (fun c hc => ⟨(g8 _ (by omega)).trans (d1 c hc).1, (g8 _ (by omega)).trans (d1 c hc).2⟩)
              (fun c hc => ⟨(FN.1 c hc).1, (FN.1 c hc).2⟩)
              (fun i hi => ⟨(g9 _ (by omega)).trans (d3 i hi).1, (g9 _ (by omega)).trans (d3 i hi).2⟩)
              (fun i hi => ⟨(g7 i hi).trans ((congrArg (· + _) (d4 i hi).1).trans ((congrArg (_ + ·) (d3 i hi).1).trans (((hT i).trans (if_pos hi)).symm))), FN.2 i hi⟩), sok_in ⟨s1, s2, s3, s4, s5, s6, s7, s8, s9, fun i hi => ?_, fun i hi hF => ⟨(s11 i hi hF).1, ((hT i).trans (if_pos hi)).trans (by rw [Z1 i hi hF, Z2 i hi hF]; rfl)⟩, s12, SE⟩⟩, HR_frame g3 (fun y hy => g8 y (by omega)) (fun y hy => g9 y (by omega))⟩
            obtain ⟨a', b', ha', hb', ea', eb'⟩ := s10 i hi
            have hTi : T i = lN (b' + a') := ((hT i).trans (if_pos hi)).trans (by rw [ea', eb', lN_add])
            have hab : b' + a' ≤ 1000000000 := by
              have := hr i hi
              rw [ea', eb', lN_add] at this
              exact (pk_lLE (b := 1000000000) (by omega) (by omega)).mp this
            exact ⟨a', b' + a', ha', hab, ea', hTi⟩
          · have hr2 : ∃ f, f < 16 ∧ ¬ t2 f + t1 f ≤ 1000000000 := Classical.byContradiction fun z => hr fun f hf => Classical.byContradiction fun w => z ⟨f, hf, w⟩
            have r1c := (cx_room (a := t2) (b := t1)).2 hr2
            have r2c : ∀ K, f_Model_addBraid_L27 0 1 row num saved K 200 0 = some (-5, row, num, saved) := fun K => (cx_room27 (p := 0) (q := 1) (row := row) (num := num) (sv := saved) (K := K) (by omega) (by omega) s7 u6).2 (by
              obtain ⟨f, hf, hn⟩ := hr2
              refine ⟨f, ?_, ?_⟩
              · rcases Nat.lt_or_ge f F with w | w
                · exact w
                · rw [Z1 f hf w, Z2 f hf w] at hn
                  exact absurd (by decide) hn
              · rw [(d30 f (by omega)).1, (d40 f (by omega)).1, Int64.add_comm]
                exact hn)
            simp only [r1c, r2c, cx_ob, cx_i10, cx_i01, if_true, if_false, eq_self]
            exact OUTP_same h0 hn0 H
      · rcases braid_cases hy with rfl | rfl
        · simp only [eq_self, if_true, if_false, cx_i10]
          by_cases hr : ∀ f, f < 16 → t1 f + t2 f ≤ 1000000000
          · have r1c := (cx_room (a := t1) (b := t2)).1 hr
            have r2c : ∀ K, f_Model_addBraid_L27 1 0 row num saved K 200 0 = K (nI F) := fun K => (cx_room27 (p := 1) (q := 0) (row := row) (num := num) (sv := saved) (K := K) (by omega) (by omega) s7 u6).1 (fun f hf => by
              rw [(d40 f (by omega)).1, (d30 f (by omega)).1, Int64.add_comm]
              exact hr f (by omega))
            obtain ⟨T, ra, ma, na, c1, c2, hT⟩ := cx_join (t := t1) (t' := t2) s2.2 s4 s5.2 s12 s13
            obtain ⟨row2, num2, g10, c3, g7, g8, g9⟩ := cx_mjoin (p := 1) (q := 0) (row := row') (num := num') (K := fun i55 c57 c58 => some (i55, c57, c58, sv)) (by omega) (by omega) (by omega) s1.2 s2 s4 s5.2 f0 f1 f3 f4 (fun c h1 h2 => ⟨cx_SS_z s1 c h1 h2, cx_SS_z s1 c h1 h2⟩) v1 v2
            have g10 : f_Model_addBraid_L73 1 0 (fun i23 c24 => f_Model_addBraid_L115 200 1 0 (fun i55 i56 c57 c58 => some (i55, c57, c58, sv)) 200 0 0 row' c24) 200 0 num' = some (nI (cx_jc D (cx_SS M K ks t1) (cx_SS M K ks t2) 24), row2, num2, sv) := g10
            have FN := cx_SEM_fn c3 c2
            have SE : cx_SEM D N Q (cx_SS M K ks T) ra ma na := cx_SEM_eq c2 fun c _ => cx_SS_add T1 T2 (fun f hf => (hT f).trans (if_pos hf)) c
            simp only [r1c, r2c, cx_ob, cx_i10, cx_i01, if_true, if_false, eq_self, g1, g2, c1, g10]
            refine ⟨_, _, rfl, rfl, rfl, ⟨RS0_mk ⟨(g8 _ (by omega)).trans f0, (g8 _ (by omega)).trans f1, (g8 _ (by omega)).trans f2, (g8 _ (by omega)).trans f3, (g8 _ (by omega)).trans f4, (g8 _ (by omega)).trans f5, (g8 _ (by omega)).trans f6⟩ (fun i hi => (g8 _ (by omega)).trans (dk i hi))
              (fun c hc => ⟨(FN.1 c hc).1, (FN.1 c hc).2⟩)
              (fun c hc => ⟨(g8 _ (by omega)).trans (d2 c hc).1, (g8 _ (by omega)).trans (d2 c hc).2⟩)
              (fun i hi => ⟨(g7 i hi).trans ((congrArg (· + _) (d3 i hi).1).trans ((congrArg (_ + ·) (d4 i hi).1).trans (((hT i).trans (if_pos hi)).symm))), FN.2 i hi⟩)
              (fun i hi => ⟨(g9 _ (by omega)).trans (d4 i hi).1, (g9 _ (by omega)).trans (d4 i hi).2⟩), sok_in ⟨s1, s2, s3, s4, s5, s6, s7, s8, s9, fun i hi => ?_, fun i hi hF => ⟨((hT i).trans (if_pos hi)).trans (by rw [Z1 i hi hF, Z2 i hi hF]; rfl), (s11 i hi hF).2⟩, SE, s13⟩⟩, HR_frame g3 (fun y hy => g8 y (by omega)) (fun y hy => g9 y (by omega))⟩
            obtain ⟨a', b', ha', hb', ea', eb'⟩ := s10 i hi
            have hTi : T i = lN (a' + b') := ((hT i).trans (if_pos hi)).trans (by rw [ea', eb', lN_add])
            have hab : a' + b' ≤ 1000000000 := by
              have := hr i hi
              rw [ea', eb', lN_add] at this
              exact (pk_lLE (b := 1000000000) (by omega) (by omega)).mp this
            exact ⟨a' + b', b', hab, hb', hTi, eb'⟩
          · have hr2 : ∃ f, f < 16 ∧ ¬ t1 f + t2 f ≤ 1000000000 := Classical.byContradiction fun z => hr fun f hf => Classical.byContradiction fun w => z ⟨f, hf, w⟩
            have r1c := (cx_room (a := t1) (b := t2)).2 hr2
            have r2c : ∀ K, f_Model_addBraid_L27 1 0 row num saved K 200 0 = some (-5, row, num, saved) := fun K => (cx_room27 (p := 1) (q := 0) (row := row) (num := num) (sv := saved) (K := K) (by omega) (by omega) s7 u6).2 (by
              obtain ⟨f, hf, hn⟩ := hr2
              refine ⟨f, ?_, ?_⟩
              · rcases Nat.lt_or_ge f F with w | w
                · exact w
                · rw [Z1 f hf w, Z2 f hf w] at hn
                  exact absurd (by decide) hn
              · rw [(d40 f (by omega)).1, (d30 f (by omega)).1, Int64.add_comm]
                exact hn)
            simp only [r1c, r2c, cx_ob, cx_i10, cx_i01, if_true, if_false, eq_self]
            exact OUTP_same h0 hn0 H
        · simp only [eq_self, if_true]
          exact OUTP_same h0 hn0 H
    · simp only [if_pos hx, if_neg hy, cx_ob, cx_i10, if_false, if_true, eq_self]
      exact OUTP_same h0 hn0 H
  · simp only [if_neg hx, cx_ob, if_true, eq_self]
    exact OUTP_same h0 hn0 H
