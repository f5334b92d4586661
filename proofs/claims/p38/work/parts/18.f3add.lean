theorem cx_dm2 {D : Nat} (a b : Nat) : (a + b) % 2 ^ D = (a % 2 ^ D + b % 2 ^ D) % 2 ^ D ∧ (a + b) / 2 ^ D = a / 2 ^ D + b / 2 ^ D + (a % 2 ^ D + b % 2 ^ D) / 2 ^ D := by
  refine ⟨Nat.add_mod a b _, ?_⟩
  have e1 := (cx_dm (D := D) a b).2
  have e2 := (cx_dm (D := D) b (a % 2 ^ D)).2
  rw [Nat.add_comm b, Nat.add_comm (b % 2 ^ D)] at e2
  omega
theorem cx_room {a b : FJ} : ((∀ f, f < 16 → a f + b f ≤ 1000000000) → f_Braid_hasRoomFor 200 a b = some 1) ∧ ((∃ f, f < 16 ∧ ¬ a f + b f ≤ 1000000000) → f_Braid_hasRoomFor 200 a b = some 0) := by
  unfold f_Braid_hasRoomFor
  constructor
  · intro h
    refine cx_lf (fun n j (s : Unit) => f_Braid_hasRoomFor_L2 a b (fun i2 => some 1) n (nI j)) (fun s => some 1) (fun j => ()) 16 (fun n => ?_) (fun n j hj => ?_) 200 0 (by omega) (by omega)
    · show f_Braid_hasRoomFor_L2 a b _ (n + 1) (nI 16) = _
      rw [f_Braid_hasRoomFor_L2, if_pos (cx_L16 (by omega) (by omega))]
    · show f_Braid_hasRoomFor_L2 a b _ (n + 1) (nI j) = _
      rw [f_Braid_hasRoomFor_L2, if_neg (cx_G16 (by omega)), if_pos (ck_nI (by omega) (by decide)), if_pos (ck_nI (by omega) (by decide)), nI_clamp (by omega), if_pos (h j hj), nI_1]
  · intro h
    obtain ⟨j, ⟨hj, hb⟩, hl⟩ := pk_least (fun f => f < 16 ∧ ¬ a f + b f ≤ 1000000000) h
    have key : ∀ n i, i ≤ j → j < i + n → f_Braid_hasRoomFor_L2 a b (fun i2 => some 1) n (nI i) = some 0 := by
      intro n
      induction n with
      | zero => intro i h1 h2; omega
      | succ n ih =>
        intro i h1 h2
        rw [f_Braid_hasRoomFor_L2, if_neg (cx_G16 (by omega)), if_pos (ck_nI (by omega) (by decide)), if_pos (ck_nI (by omega) (by decide)), nI_clamp (by omega)]
        by_cases q : i = j
        · subst q; rw [if_neg hb]
        · rw [if_pos (Classical.byContradiction fun z => hl i (by omega) ⟨by omega, z⟩), nI_1]
          exact ih (i + 1) (by omega) (by omega)
    exact key 200 0 (by omega) (by omega)
/-- how far two braids have been added: the counters below j are through -/
def cx_jA (D : Nat) (Sa Sb : Nat → Nat) (j c : Nat) : Nat := if c < j then (Sa c + Sb c) % 2 ^ D else Sa c % 2 ^ D
def cx_jV (D : Nat) (Sa Sb : Nat → Nat) (j c : Nat) : Nat := if c < j then (Sa c + Sb c) / 2 ^ D else Sa c / 2 ^ D
def cx_jW (D : Nat) (Sa Sb : Nat → Nat) (j c : Nat) : Nat := if c < j then (Sa c + Sb c) / 2 ^ D else Sa c / 2 ^ D + Sb c / 2 ^ D
def cx_jc (D : Nat) (Sa Sb : Nat → Nat) (j : Nat) : Nat := cx_sm (fun c => if Sa c / 2 ^ D = 0 then (if (Sa c + Sb c) / 2 ^ D = 0 then 0 else 1) else 0) j
theorem cx_j0 {D N Q : Nat} {Sa Sb : Nat → Nat} {r m r' m' : FI} {n n' n2 : FJ} (h : cx_SEM D N Q Sa r m n) (h2 : cx_SEM D N Q Sb r' m' n') (e : ∀ u, u < 16 → n2 u = n u + n' u) : cx_G N Q (cx_jA D Sa Sb 0) (cx_jV D Sa Sb 0) (cx_jW D Sa Sb 0) r m n2 := by
  refine ⟨fun c hc => ?_, fun u hu => ?_⟩
  · rw [cx_jA, cx_jV, if_neg (Nat.not_lt_zero c), if_neg (Nat.not_lt_zero c)]
    exact h.1 c hc
  · rw [e u hu, h.2 u hu, h2.2 u hu, lN_add, ← cx_sm_add]
    refine congrArg lN (cx_sm_eq fun c hc => ?_)
    rw [cx_jW, if_neg (Nat.not_lt_zero c)]
    by_cases z : cx_bt (cx_pU N Q c) u = true
    · rw [if_pos z, if_pos z, if_pos z]
    · rw [if_neg z, if_neg z, if_neg z]
/-- one counter further -/
theorem cx_j1 {D N Q j : Nat} {Sa Sb : Nat → Nat} {r m m2 : FI} {n : FJ} (hj : j < 24) (h : cx_G N Q (fun x => if x = j then (cx_jA D Sa Sb j j + Sb j % 2 ^ D) % 2 ^ D else cx_jA D Sa Sb j x) (fun x => if x = j then cx_jV D Sa Sb j j + (cx_jA D Sa Sb j j + Sb j % 2 ^ D) / 2 ^ D else cx_jV D Sa Sb j x) (fun x => if x = j then cx_jW D Sa Sb j j + (cx_jA D Sa Sb j j + Sb j % 2 ^ D) / 2 ^ D else cx_jW D Sa Sb j x) r m n)
    (e0 : ∀ x, x < 24 → x ≠ j → m2 x = m x) (e1 : m2 j = if (Sa j + Sb j) / 2 ^ D = 0 then 0 else 1) : cx_G N Q (cx_jA D Sa Sb (j + 1)) (cx_jV D Sa Sb (j + 1)) (cx_jW D Sa Sb (j + 1)) r m2 n := by
  obtain ⟨d1, d2⟩ := cx_dm2 (D := D) (Sa j) (Sb j)
  have ea : ∀ x, (if x = j then (cx_jA D Sa Sb j j + Sb j % 2 ^ D) % 2 ^ D else cx_jA D Sa Sb j x) = cx_jA D Sa Sb (j + 1) x := by
    intro x
    by_cases q : x = j
    · subst q
      rw [if_pos rfl, cx_jA, if_neg (Nat.lt_irrefl x), cx_jA, if_pos (by omega), d1]
    · rw [if_neg q, cx_jA, cx_jA]
      by_cases z : x < j
      · rw [if_pos z, if_pos (by omega)]
      · rw [if_neg z, if_neg (by omega)]
  have ew : ∀ x, (if x = j then cx_jW D Sa Sb j j + (cx_jA D Sa Sb j j + Sb j % 2 ^ D) / 2 ^ D else cx_jW D Sa Sb j x) = cx_jW D Sa Sb (j + 1) x := by
    intro x
    by_cases q : x = j
    · subst q
      rw [if_pos rfl, cx_jA, if_neg (Nat.lt_irrefl x), cx_jW, if_neg (Nat.lt_irrefl x), cx_jW, if_pos (by omega), d2]
    · rw [if_neg q, cx_jW, cx_jW]
      by_cases z : x < j
      · rw [if_pos z, if_pos (by omega)]
      · rw [if_neg z, if_neg (by omega)]
  refine ⟨fun c hc => ⟨?_, ?_⟩, fun u hu => ?_⟩
  · rw [(h.1 c hc).1]; exact congrArg nI (ea c)
  · by_cases q : c = j
    · have hv : cx_jV D Sa Sb (j + 1) c = (Sa j + Sb j) / 2 ^ D := by
        subst q
        exact if_pos (by omega)
      rw [hv]
      subst q
      exact e1
    · rw [e0 c hc q, (h.1 c hc).2]
      have ev : (if c = j then cx_jV D Sa Sb j j + (cx_jA D Sa Sb j j + Sb j % 2 ^ D) / 2 ^ D else cx_jV D Sa Sb j c) = cx_jV D Sa Sb (j + 1) c := by
        rw [if_neg q]
        unfold cx_jV
        by_cases z : c < j
        · rw [if_pos z, if_pos (by omega)]
        · rw [if_neg z, if_neg (by omega)]
      exact congrArg (fun z : Nat => if z = 0 then (0 : Int32) else 1) ev
  · rw [h.2 u hu]
    refine congrArg lN (cx_sm_eq fun c hc => ?_)
    dsimp only
    rw [ew c]
theorem cx_jend {D N Q M : Nat} {Sa Sb : Nat → Nat} {r m : FI} {n : FJ} (h0 : ∀ c, c < 24 → M ≤ c → Sa c = 0 ∧ Sb c = 0) (h : cx_G N Q (cx_jA D Sa Sb M) (cx_jV D Sa Sb M) (cx_jW D Sa Sb M) r m n) : cx_SEM D N Q (fun c => Sa c + Sb c) r m n := by
  refine cx_G_S (cx_G_eq h fun c hc => ?_)
  rw [cx_jA, cx_jV, cx_jW]
  by_cases z : c < M
  · rw [if_pos z, if_pos z, if_pos z]; exact ⟨rfl, rfl, rfl⟩
  · rw [if_neg z, if_neg z, if_neg z, (h0 c hc (by omega)).1, (h0 c hc (by omega)).2]
    simp
theorem cx_jcm {D : Nat} {Sa Sb : Nat → Nat} {M : Nat} (hM : M ≤ 24) (h0 : ∀ c, c < 24 → M ≤ c → Sa c = 0 ∧ Sb c = 0) : cx_jc D Sa Sb 24 = cx_jc D Sa Sb M := cx_sm_ext hM fun i h1 h2 => by
  rw [(h0 i h2 h1).1, (h0 i h2 h1).2]
  simp
theorem cx_mark2 {D : Nat} (a b : Nat) : (if (if a / 2 ^ D + (a % 2 ^ D + b % 2 ^ D) / 2 ^ D = 0 then (0 : Int32) else 1) < (if b / 2 ^ D = 0 then 0 else 1) then (if b / 2 ^ D = 0 then (0 : Int32) else 1) else (if a / 2 ^ D + (a % 2 ^ D + b % 2 ^ D) / 2 ^ D = 0 then 0 else 1)) = if (a + b) / 2 ^ D = 0 then 0 else 1 := by
  have d2 := (cx_dm2 (D := D) a b).2
  have n1 := Nat.zero_le (a / 2 ^ D)
  have n2 := Nat.zero_le (b / 2 ^ D)
  have n3 := Nat.zero_le ((a % 2 ^ D + b % 2 ^ D) / 2 ^ D)
  by_cases z1 : a / 2 ^ D + (a % 2 ^ D + b % 2 ^ D) / 2 ^ D = 0
  · by_cases z2 : b / 2 ^ D = 0
    · rw [if_pos z1, if_pos z2, if_neg (by decide), if_pos (by omega)]
    · rw [if_pos z1, if_neg z2, if_pos (by decide), if_neg (by omega)]
  · by_cases z2 : b / 2 ^ D = 0
    · rw [if_neg z1, if_pos z2, if_neg (by decide), if_neg (by omega)]
    · rw [if_neg z1, if_neg z2, if_neg (by decide), if_neg (by omega)]
theorem cx_join {D N Q : Nat} {Sa Sb : Nat → Nat} {t t' n n' : FJ} {r m r' m' : FI} (hD : D ≤ 8) (hN : 1 ≤ N ∧ N ≤ 16) (hQ : Q ≤ 3) (h : cx_SEM D N Q Sa r m n) (h' : cx_SEM D N Q Sb r' m' n') : ∃ (T : FJ) (r2 m2 : FI) (n2 : FJ), f_Braid_join 200 t r m n (nI D) (nI N) (nI Q) t' r' m' n' = some (nI (cx_jc D Sa Sb 24), T, r2, m2, n2) ∧ cx_SEM D N Q (fun c => Sa c + Sb c) r2 m2 n2 ∧ ∀ f, T f = if f < 16 then t f + t' f else t f := by
  unfold f_Braid_join
  generalize hK : (fun (i9 : Int32) (c10 : FJ) => f_Braid_join_L38 200 (nI D) (nI N) (nI Q) r' m' (fun i21 i22 c23 c24 c25 => f_Braid_join_L115 t' (fun i34 c35 => some (i21, c35, c23, c24, c25)) 200 0 t) 200 0 0 r m c10) = K
  obtain ⟨g, hg, e1⟩ := cx_lp (fun k j (s : FJ) => f_Braid_join_L5 n' K k (nI j) s) (fun s => K (nI 16) s) (fun j s => ∀ u, s u = if u < j then n u + n' u else n u) 16
    (fun k s _ => by
      show f_Braid_join_L5 n' K (k + 1) (nI 16) s = _
      rw [f_Braid_join_L5, if_pos (cx_L16 (by omega) (by omega))])
    (fun k j s hj hP => by
      refine ⟨vp_updL s j (s j + n' j), fun u => ?_, ?_⟩
      · by_cases q : u = j
        · subst q; rw [pk_uLs, hP u, if_neg (Nat.lt_irrefl u), if_pos (by omega)]
        · rw [pk_uLn q, hP u]
          by_cases z : u < j
          · rw [if_pos z, if_pos (by omega)]
          · rw [if_neg z, if_neg (by omega)]
      · show f_Braid_join_L5 n' K (k + 1) (nI j) s = _
        rw [f_Braid_join_L5, if_neg (cx_G16 (by omega))]
        simp (disch := omega) only [cx_ck, if_true, nI_clamp, nI_1]) 200 0 n (by omega) (by omega) (fun u => by rw [if_neg (Nat.not_lt_zero u)])
  rw [show f_Braid_join_L5 n' K 200 0 n = K (nI 16) g from e1, ← hK]
  obtain ⟨s, hs, e2⟩ := cx_lp (fun k j (s : Int32 × FI × FI × FJ) => f_Braid_join_L38 200 (nI D) (nI N) (nI Q) r' m' (fun i21 i22 c23 c24 c25 => f_Braid_join_L115 t' (fun i34 c35 => some (i21, c35, c23, c24, c25)) 200 0 t) k s.1 (nI j) s.2.1 s.2.2.1 s.2.2.2) (fun s => f_Braid_join_L115 t' (fun i34 c35 => some (s.1, c35, s.2.1, s.2.2.1, s.2.2.2)) 200 0 t)
    (fun j s => s.1 = nI (cx_jc D Sa Sb j) ∧ cx_G N Q (cx_jA D Sa Sb j) (cx_jV D Sa Sb j) (cx_jW D Sa Sb j) s.2.1 s.2.2.1 s.2.2.2) 24
    (fun k s _ => by
      show f_Braid_join_L38 200 (nI D) (nI N) (nI Q) r' m' _ (k + 1) s.1 (nI 24) s.2.1 s.2.2.1 s.2.2.2 = _
      rw [f_Braid_join_L38, if_pos (cx_L24 (by omega) (by omega))])
    (fun k j s hj hP => by
      have hA : cx_jA D Sa Sb j j = Sa j % 2 ^ D := by rw [cx_jA, if_neg (Nat.lt_irrefl j)]
      have hV : cx_jV D Sa Sb j j = Sa j / 2 ^ D := by rw [cx_jV, if_neg (Nat.lt_irrefl j)]
      have l1 := cx_2D hD (Sa j)
      have l2 := cx_2D hD (Sb j)
      obtain ⟨ra, ma, na, g1, g2, g3⟩ := cx_raiseG (v := Sb j % 2 ^ D) hD hN hQ hj (by omega) (by rw [hA]; omega) hP.2
      have em : ma j = if Sa j / 2 ^ D + (Sa j % 2 ^ D + Sb j % 2 ^ D) / 2 ^ D = 0 then 0 else 1 := (g2.1 j hj).2.trans (congrArg (fun z : Nat => if z = 0 then (0 : Int32) else 1) ((if_pos rfl).trans (by rw [hA, hV])))
      have eo : s.2.2.1 j = if Sa j / 2 ^ D = 0 then 0 else 1 := by
        rw [(hP.2.1 j hj).2, hV]
      have en : (if ma j < m' j then m' j else ma j) = if (Sa j + Sb j) / 2 ^ D = 0 then 0 else 1 := by
        rw [em, (h'.1 j hj).2]; exact cx_mark2 (Sa j) (Sb j)
      refine ⟨(nI (cx_jc D Sa Sb (j + 1)), ra, upd ma j (if ma j < m' j then m' j else ma j), na), ⟨rfl, cx_j1 hj g2 (fun x _ q => pk_un q) (pk_us.trans en)⟩, ?_⟩
      show f_Braid_join_L38 200 (nI D) (nI N) (nI Q) r' m' _ (k + 1) s.1 (nI j) s.2.1 s.2.2.1 s.2.2.2 = f_Braid_join_L38 200 (nI D) (nI N) (nI Q) r' m' _ k (nI (cx_jc D Sa Sb (j + 1))) (nI (j + 1)) ra (upd ma j (if ma j < m' j then m' j else ma j)) na
      have ec : s.1 + (upd ma j (if ma j < m' j then m' j else ma j) j - s.2.2.1 j) = nI (cx_jc D Sa Sb (j + 1)) := by
        rw [pk_us, en, eo, hP.1]
        have d2 := (cx_dm2 (D := D) (Sa j) (Sb j)).2
        have n1 := Nat.zero_le (Sa j / 2 ^ D)
        have n2 := Nat.zero_le (Sb j / 2 ^ D)
        have n3 := Nat.zero_le ((Sa j % 2 ^ D + Sb j % 2 ^ D) / 2 ^ D)
        unfold cx_jc
        rw [cx_sm, ← nI_add]
        refine congrArg (_ + ·) ?_
        by_cases z1 : Sa j / 2 ^ D = 0
        · by_cases z2 : (Sa j + Sb j) / 2 ^ D = 0
          · rw [if_pos z1, if_pos z2, if_pos z1, if_pos z2]; rfl
          · rw [if_pos z1, if_neg z2, if_pos z1, if_neg z2]; rfl
        · rw [if_neg z1, if_neg (show ¬ (Sa j + Sb j) / 2 ^ D = 0 by omega), if_neg z1]; rfl
      rw [f_Braid_join_L38, if_neg (cx_G24 (by omega)), if_pos (ck_nI hj (by decide)), if_pos (ck_nI hj (by decide)), nI_clamp (show j < 2 ^ 31 by omega), (h'.1 j hj).1, nI_l (show Sb j % 2 ^ D < 2 ^ 31 by omega), g1, cx_ob]
      simp (disch := omega) only [cx_ck, if_true, nI_1]
      rw [ec]) 200 0 (0, r, m, g) (by omega) (by omega) ⟨rfl, cx_j0 h h' (fun u hu => (hg u).trans (if_pos hu))⟩
  obtain ⟨T, hT, e3⟩ := cx_lp (fun k j (w : FJ) => f_Braid_join_L115 t' (fun i34 c35 => some (s.1, c35, s.2.1, s.2.2.1, s.2.2.2)) k (nI j) w) (fun w => some (s.1, w, s.2.1, s.2.2.1, s.2.2.2)) (fun j w => ∀ f, w f = if f < j then t f + t' f else t f) 16
    (fun k w _ => by
      show f_Braid_join_L115 t' _ (k + 1) (nI 16) w = _
      rw [f_Braid_join_L115, if_pos (cx_L16 (by omega) (by omega))])
    (fun k j w hj hP => by
      refine ⟨vp_updL w j (w j + t' j), fun u => ?_, ?_⟩
      · by_cases q : u = j
        · subst q; rw [pk_uLs, hP u, if_neg (Nat.lt_irrefl u), if_pos (by omega)]
        · rw [pk_uLn q, hP u]
          by_cases z : u < j
          · rw [if_pos z, if_pos (by omega)]
          · rw [if_neg z, if_neg (by omega)]
      · show f_Braid_join_L115 t' _ (k + 1) (nI j) w = _
        rw [f_Braid_join_L115, if_neg (cx_G16 (by omega))]
        simp (disch := omega) only [cx_ck, if_true, nI_clamp, nI_1]) 200 0 t (by omega) (by omega) (fun u => by rw [if_neg (Nat.not_lt_zero u)])
  refine ⟨T, s.2.1, s.2.2.1, s.2.2.2, ?_, cx_jend (M := 24) (fun c h1 h2 => by omega) hs.2, hT⟩
  refine e2.trans (e3.trans ?_)
  rw [hs.1]
theorem cx_SS_add {M K : Nat} {ks : FI} {t t' T : FJ} (h1 : ∀ f, f < 16 → ∃ a, a ≤ 1000000000 ∧ t f = lN a) (h2 : ∀ f, f < 16 → ∃ a, a ≤ 1000000000 ∧ t' f = lN a) (hT : ∀ f, f < 16 → T f = t f + t' f) (c : Nat) : cx_SS M K ks t c + cx_SS M K ks t' c = cx_SS M K ks T c := by
  unfold cx_SS
  rw [← cx_sm_add]
  refine cx_sm_eq fun f hf => ?_
  obtain ⟨a, ha, ea⟩ := h1 f hf
  obtain ⟨b, hb, eb⟩ := h2 f hf
  rw [hT f hf, ea, eb, lN_add, cx_lcl (show a < 2 ^ 63 by omega), cx_lcl (show b < 2 ^ 63 by omega), cx_lcl (show a + b < 2 ^ 63 by omega)]
  by_cases z : cx_bt (cx_pK M K (ks f).toNatClampNeg) c = true
  · rw [if_pos z, if_pos z, if_pos z]
  · rw [if_neg z, if_neg z, if_neg z]
theorem cx_SS_z {M K : Nat} {ks : FI} {T : FJ} (hM : 2 ≤ M ∧ M ≤ 24) : ∀ c, c < 24 → M ≤ c → cx_SS M K ks T c = 0 := fun c hc h => cx_sm_z fun f _ => if_neg fun z => by
  have := cx_pK_lt (by omega) hM.2 (by omega) z
  omega
