/-! one counter gets more, on both sides -/
theorem cx_c63 : ∀ k, k < 64 → ((nI k).toInt64 &&& 63) = lN k := by decide +kernel
theorem cx_s64 : ∀ k, k < 64 → ((lN k).toBitVec.smod 64).toNat = k := by decide +kernel
theorem cx_shrL {a k : Nat} (hk : k < 64) (h : a < 2 ^ 63) : lN a >>> ((nI k).toInt64 &&& 63) = lN (a / 2 ^ k) := by
  rw [cx_c63 k hk]
  have hd : a / 2 ^ k ≤ a := Nat.div_le_self _ _
  apply Int64.toInt_inj.mp
  have e : (lN a >>> lN k).toInt = (lN a).toInt >>> k := by
    show ((lN a).toBitVec.sshiftRight ((lN k).toBitVec.smod 64).toNat).toInt = _
    rw [cx_s64 k hk, BitVec.toInt_sshiftRight]
    rfl
  rw [e, Int.shiftRight_eq_div_pow, pk_lT h, pk_lT (by omega)]
  rfl
theorem cx_shlL (n : Nat) {k : Nat} (hk : k < 64) : lN n <<< ((nI k).toInt64 &&& 63) = lN (n * 2 ^ k) := by
  rw [cx_c63 k hk]
  apply Int64.toBitVec_inj.mp
  show (lN n).toBitVec <<< ((lN k).toBitVec.smod 64).toNat = BitVec.ofNat 64 (n * 2 ^ k)
  rw [cx_s64 k hk]
  apply BitVec.eq_of_toNat_eq
  show ((BitVec.ofNat 64 n) <<< k).toNat = _
  rw [BitVec.toNat_shiftLeft, BitVec.toNat_ofNat, BitVec.toNat_ofNat, Nat.shiftLeft_eq, Nat.mul_mod, Nat.mod_mod, ← Nat.mul_mod]
theorem cx_sv0 : ∀ j, j < 4 → sv0 j = nI (cx_av j) ∧ sv1 j = nI (cx_aw j) := by decide +kernel
theorem cx_sv2 : ∀ j, j < 3 → sv2 j = nI (cx_ev j) ∧ sv3 j = nI (cx_ew j) := by decide +kernel
theorem cx_av_le (j : Nat) : cx_av j ≤ 131 ∧ cx_aw j ≤ 53 := by
  unfold cx_av cx_aw
  by_cases h0 : j = 0
  · simp [h0]
  · by_cases h1 : j = 1
    · simp [h1]
    · by_cases h2 : j = 2
      · simp [h2]
      · simp [h0, h1, h2]
theorem cx_ev_le (j : Nat) : cx_ev j ≤ 61 ∧ cx_ew j ≤ 23 := by
  unfold cx_ev cx_ew
  by_cases h0 : j = 0
  · simp [h0]
  · by_cases h1 : j = 1
    · simp [h1]
    · simp [h0, h1]
theorem cx_rem {a b : Nat} (ha : a < 2 ^ 31) (h0 : 0 < b) (hb : b < 2 ^ 31) : f_Form_remainder (nI a) (nI b) = some (nI (a % b)) := by
  unfold f_Form_remainder
  rw [if_neg (nI_nle h0 hb), if_neg (nI_ne0 h0 hb), pk_rem ha h0 hb]
theorem cx_mKa {x j : Nat} (hx : x ≤ 999) : x * cx_av j + cx_aw j < 2 ^ 30 := by
  have h1 := cx_av_le j
  have h2 : x * cx_av j ≤ 999 * 131 := Nat.mul_le_mul hx h1.1
  omega
theorem cx_mUa {c j : Nat} (hc : c < 24) : c * cx_ev j + cx_ew j < 2 ^ 30 := by
  have h1 := cx_ev_le j
  have h2 : c * cx_ev j ≤ 24 * 61 := Nat.mul_le_mul (by omega) h1.1
  omega
theorem cx_plK {x M K : Nat} (hx : x ≤ 999) (hM : 2 ≤ M ∧ M ≤ 24) (hK : K ≤ 4) : f_Form_placesOfKey 200 (nI x) (nI M) (nI K) = some (cx_pK M K x) := by
  unfold f_Form_placesOfKey
  refine cx_lf (fun n j s => f_Form_placesOfKey_L4 (nI x) (nI M) (nI K) (fun i6 i7 => some i6) n s (nI j)) (fun s => some s) (fun j => cx_mk (cx_kv M x) j) K (fun n => ?_) (fun n j hj => ?_) 200 0 (by omega) (by omega)
  · show f_Form_placesOfKey_L4 (nI x) (nI M) (nI K) _ (n + 1) (cx_mk (cx_kv M x) K) (nI K) = _
    rw [f_Form_placesOfKey_L4, if_pos (nI_le (Nat.le_refl _) (by omega))]
  · show f_Form_placesOfKey_L4 (nI x) (nI M) (nI K) _ (n + 1) (cx_mk (cx_kv M x) j) (nI j) = _
    have hb := cx_mKa (x := x) (j := j) hx
    rw [f_Form_placesOfKey_L4, if_neg (nI_ge (by omega) (by omega)), if_neg (show ¬ (4 : Int32) ≤ nI j from nI_ge (b := 4) (by omega) (by omega)), if_pos (ck_nI (by omega) (by decide)), if_pos (ck_nI (by omega) (by decide)), nI_clamp (by omega), (cx_sv0 j (by omega)).1, (cx_sv0 j (by omega)).2, pk_mul, nI_add, show (1009 : Int32) = nI 1009 from rfl, pk_rem (by omega) (by omega) (by omega), cx_rem (Nat.lt_of_le_of_lt (Nat.mod_le _ _) (by omega)) (by omega) (by omega), cx_ob, nI_1]
    rfl
theorem cx_plC {c N Q : Nat} (hc : c < 24) (hN : 1 ≤ N ∧ N ≤ 16) (hQ : Q ≤ 3) : f_Form_placesOfCounter 200 (nI c) (nI N) (nI Q) = some (cx_pU N Q c) := by
  unfold f_Form_placesOfCounter
  refine cx_lf (fun n j s => f_Form_placesOfCounter_L4 (nI c) (nI N) (nI Q) (fun i6 i7 => some i6) n s (nI j)) (fun s => some s) (fun j => cx_mk (cx_uv N c) j) Q (fun n => ?_) (fun n j hj => ?_) 200 0 (by omega) (by omega)
  · show f_Form_placesOfCounter_L4 (nI c) (nI N) (nI Q) _ (n + 1) (cx_mk (cx_uv N c) Q) (nI Q) = _
    rw [f_Form_placesOfCounter_L4, if_pos (nI_le (Nat.le_refl _) (by omega))]
  · show f_Form_placesOfCounter_L4 (nI c) (nI N) (nI Q) _ (n + 1) (cx_mk (cx_uv N c) j) (nI j) = _
    have hb := cx_mUa (c := c) (j := j) hc
    rw [f_Form_placesOfCounter_L4, if_neg (nI_ge (by omega) (by omega)), if_neg (show ¬ (3 : Int32) ≤ nI j from nI_ge (b := 3) (by omega) (by omega)), if_pos (ck_nI (by omega) (by decide)), if_pos (ck_nI (by omega) (by decide)), nI_clamp (by omega), (cx_sv2 j (by omega)).1, (cx_sv2 j (by omega)).2, pk_mul, nI_add, show (103 : Int32) = nI 103 from rfl, pk_rem (by omega) (by omega) (by omega), cx_rem (Nat.lt_of_le_of_lt (Nat.mod_le _ _) (by omega)) (by omega) (by omega), cx_ob, nI_1]
    rfl
theorem cx_rn (mask : Int32) (v : Int64) (n0 : FJ) : ∃ n', f_Braid_raiseNumbers 200 mask v n0 = some n' ∧ ∀ u, u < 16 → n' u = if cx_bt mask u = true then n0 u + v else n0 u := by
  unfold f_Braid_raiseNumbers
  obtain ⟨s, h, e⟩ := cx_lp (fun n j s => f_Braid_raiseNumbers_L3 mask v (fun i9 c10 => some c10) n (nI j) s) (fun s => some s) (fun j s => ∀ u, s u = if u < j ∧ cx_bt mask u = true then n0 u + v else n0 u) 16
    (fun n s _ => by
      show f_Braid_raiseNumbers_L3 mask v _ (n + 1) (nI 16) s = _
      rw [f_Braid_raiseNumbers_L3, if_pos (cx_L16 (by omega) (by omega))])
    (fun n j s hj hP => by
      by_cases hb : cx_bt mask j = true
      · refine ⟨vp_updL s j (s j + v), fun u => ?_, ?_⟩
        · by_cases q : u = j
          · subst q
            rw [pk_uLs, hP u, if_neg (fun z => by omega), if_pos ⟨by omega, hb⟩]
          · rw [pk_uLn q, hP u]
            by_cases z : u < j
            · by_cases z2 : cx_bt mask u = true
              · rw [if_pos ⟨z, z2⟩, if_pos ⟨by omega, z2⟩]
              · rw [if_neg (fun t => z2 t.2), if_neg (fun t => z2 t.2)]
            · rw [if_neg (fun t => z t.1), if_neg (fun t => by omega)]
        · show f_Braid_raiseNumbers_L3 mask v _ (n + 1) (nI j) s = _
          rw [f_Braid_raiseNumbers_L3, if_neg (cx_G16 (by omega)), cx_isIn (by omega), cx_ob, if_pos hb]
          simp (disch := omega) only [cx_i10, if_false, cx_ck, if_true, nI_clamp, nI_1]
      · refine ⟨s, fun u => ?_, ?_⟩
        · rw [hP u]
          by_cases z : u < j ∧ cx_bt mask u = true
          · rw [if_pos z, if_pos ⟨by omega, z.2⟩]
          · rw [if_neg z, if_neg (fun t => z ⟨by
              rcases Nat.lt_or_ge u j with w | w
              · exact w
              · exact absurd (by rw [show j = u by omega]; exact t.2) hb, t.2⟩)]
        · show f_Braid_raiseNumbers_L3 mask v _ (n + 1) (nI j) s = _
          rw [f_Braid_raiseNumbers_L3, if_neg (cx_G16 (by omega)), cx_isIn (by omega), cx_ob, if_neg hb, if_pos rfl, nI_1]) 200 0 n0 (by omega) (by omega) (fun u => by rw [if_neg (fun t => Nat.not_lt_zero u t.1)])
  refine ⟨s, e, fun u hu => ?_⟩
  rw [h u]
  by_cases z : cx_bt mask u = true
  · rw [if_pos z, if_pos ⟨hu, z⟩]
  · rw [if_neg z, if_neg (fun t => z t.2)]
/-- counters by three numbers each: the rest, what marks it, what it has passed on -/
def cx_G (N Q : Nat) (A V W : Nat → Nat) (r m : FI) (n : FJ) : Prop :=
  (∀ c, c < 24 → r c = nI (A c) ∧ m c = (if V c = 0 then 0 else 1)) ∧
  ∀ u, u < 16 → n u = lN (cx_sm (fun c => if cx_bt (cx_pU N Q c) u = true then W c else 0) 24)
theorem cx_G_eq {N Q : Nat} {A V W A' V' W' : Nat → Nat} {r m : FI} {n : FJ} (h : cx_G N Q A V W r m n) (e : ∀ c, c < 24 → A c = A' c ∧ V c = V' c ∧ W c = W' c) : cx_G N Q A' V' W' r m n := by
  refine ⟨fun c hc => by rw [← (e c hc).1, ← (e c hc).2.1]; exact h.1 c hc, fun u hu => ?_⟩
  rw [h.2 u hu]
  exact congrArg lN (cx_sm_eq fun c hc => by rw [(e c hc).2.2])
/-- the counters behind one counter's getting more -/
theorem cx_G_up {D N Q : Nat} {A V W : Nat → Nat} {r m r' m' : FI} {n n' : FJ} {c v : Nat} (hc : c < 24) (h : cx_G N Q A V W r m n)
    (hr : r' c = nI ((A c + v) % 2 ^ D)) (hm : m' c = if (A c + v) / 2 ^ D = 0 then m c else 1) (hn : ∀ u, u < 16 → n' u = if cx_bt (cx_pU N Q c) u = true then n u + lN ((A c + v) / 2 ^ D) else n u)
    (h0 : ∀ x, x < 24 → x ≠ c → r' x = r x ∧ m' x = m x) : cx_G N Q (fun x => if x = c then (A c + v) % 2 ^ D else A x) (fun x => if x = c then V c + (A c + v) / 2 ^ D else V x) (fun x => if x = c then W c + (A c + v) / 2 ^ D else W x) r' m' n' := by
  refine ⟨fun x hx => ?_, fun u hu => ?_⟩
  · by_cases q : x = c
    · subst q
      simp only [if_true, eq_self, hr, hm, (h.1 x hx).2, true_and]
      by_cases z : (A x + v) / 2 ^ D = 0
      · simp only [z, Nat.add_zero, if_true, eq_self]
      · rw [if_neg z, if_neg (by have := Nat.pos_of_ne_zero z; omega)]
    · simp only [if_neg q, (h0 x hx q).1, (h0 x hx q).2]
      exact h.1 x hx
  · rw [hn u hu, h.2 u hu]
    by_cases z : cx_bt (cx_pU N Q c) u = true
    · rw [if_pos z, lN_add]
      refine congrArg lN (cx_sm_up (k := c) hc ?_ (fun i hi hne => ?_)).symm
      · dsimp only
        rw [if_pos z, if_pos z, if_pos rfl]
      · dsimp only
        rw [if_neg hne]
    · rw [if_neg z]
      refine congrArg lN (cx_sm_eq fun i hi => ?_)
      by_cases q : i = c
      · subst q; rw [if_neg z, if_neg z]
      · dsimp only
        rw [if_neg q]
theorem cx_S_G {D N Q : Nat} {S : Nat → Nat} {r m : FI} {n : FJ} (h : cx_SEM D N Q S r m n) : cx_G N Q (fun c => S c % 2 ^ D) (fun c => S c / 2 ^ D) (fun c => S c / 2 ^ D) r m n := h
theorem cx_G_S {D N Q : Nat} {S : Nat → Nat} {r m : FI} {n : FJ} (h : cx_G N Q (fun c => S c % 2 ^ D) (fun c => S c / 2 ^ D) (fun c => S c / 2 ^ D) r m n) : cx_SEM D N Q S r m n := h
theorem cx_dm {D : Nat} (a v : Nat) : (a + v) % 2 ^ D = (a % 2 ^ D + v) % 2 ^ D ∧ (a + v) / 2 ^ D = a / 2 ^ D + (a % 2 ^ D + v) / 2 ^ D := by
  have hp : 0 < 2 ^ D := Nat.two_pow_pos D
  have hdm := Nat.div_add_mod a (2 ^ D)
  refine ⟨(Nat.mod_add_mod _ _ _).symm, ?_⟩
  have : a + v = (a % 2 ^ D + v) + 2 ^ D * (a / 2 ^ D) := by omega
  rw [this, Nat.add_mul_div_left _ _ hp, Nat.add_comm]
theorem cx_G_SEM {D N Q c v : Nat} {S : Nat → Nat} {r m : FI} {n : FJ} (h : cx_G N Q (fun x => if x = c then (S c % 2 ^ D + v) % 2 ^ D else S x % 2 ^ D) (fun x => if x = c then S c / 2 ^ D + (S c % 2 ^ D + v) / 2 ^ D else S x / 2 ^ D) (fun x => if x = c then S c / 2 ^ D + (S c % 2 ^ D + v) / 2 ^ D else S x / 2 ^ D) r m n) : cx_SEM D N Q (fun x => if x = c then S c + v else S x) r m n := by
  refine cx_G_S (cx_G_eq h fun x hx => ?_)
  obtain ⟨e1, e2⟩ := cx_dm (D := D) (S c) v
  by_cases q : x = c
  · subst q
    simp only [if_true, eq_self, e1, e2, and_self]
  · simp only [if_neg q, and_self]
theorem cx_lN0 {a : Nat} (h : a < 2 ^ 63) : (lN a ≤ 0) = (a = 0) := propext ((pk_lLE (b := 0) h (by omega)).trans (by omega))
theorem cx_lif {α : Type} {a : Nat} (h : a < 2 ^ 63) {x y : α} : (if lN a ≤ 0 then x else y) = if a = 0 then x else y := by
  by_cases z : a = 0
  · rw [if_pos z, if_pos (by rw [cx_lN0 h]; exact z)]
  · rw [if_neg z, if_neg (by rw [cx_lN0 h]; exact z)]
/-- what both sides compute of a rest and an amount -/
theorem cx_arith {D s v : Nat} (hD : D ≤ 8) (hs : s < 2 ^ 31) (hv : v < 2 ^ 60) : (nI s).toInt64 + lN v = lN (s + v) ∧ lN (s + v) >>> ((nI D).toInt64 &&& 63) = lN ((s + v) / 2 ^ D) ∧ lN (s + v) - (lN ((s + v) / 2 ^ D) <<< ((nI D).toInt64 &&& 63)) = lN ((s + v) % 2 ^ D) ∧ (lN ((s + v) % 2 ^ D)).toInt32 = nI ((s + v) % 2 ^ D) := by
  refine ⟨by rw [nI_l hs, lN_add], cx_shrL (by omega) (by omega), ?_, lN_i _⟩
  rw [cx_shlL _ (by omega), lN_sub (Nat.div_mul_le_self _ _)]
  exact congrArg lN (by have := Nat.div_add_mod' (s + v) (2 ^ D); omega)
theorem cx_2D {D : Nat} (hD : D ≤ 8) (s : Nat) : s % 2 ^ D < 256 := by
  have h1 : s % 2 ^ D < 2 ^ D := Nat.mod_lt _ (Nat.two_pow_pos D)
  have h2 : 2 ^ D ≤ 2 ^ 8 := Nat.pow_le_pow_right (by decide) hD
  omega
theorem cx_raiseG {D N Q c v : Nat} {A V W : Nat → Nat} {r m : FI} {n : FJ} (hD : D ≤ 8) (hN : 1 ≤ N ∧ N ≤ 16) (hQ : Q ≤ 3) (hc : c < 24) (hv : v < 2 ^ 60) (hs : A c < 2 ^ 31) (h : cx_G N Q A V W r m n) : ∃ (r' m' : FI) (n' : FJ), f_Braid_raise 200 (nI c) (lN v) r m n (nI D) (nI N) (nI Q) = some (r', m', n') ∧ cx_G N Q (fun x => if x = c then (A c + v) % 2 ^ D else A x) (fun x => if x = c then V c + (A c + v) / 2 ^ D else V x) (fun x => if x = c then W c + (A c + v) / 2 ^ D else W x) r' m' n' ∧ ∀ x, x ≠ c → m' x = m x := by
  obtain ⟨a1, a2, a3, a4⟩ := cx_arith hD hs hv
  have hb : (A c + v) / 2 ^ D < 2 ^ 63 := Nat.lt_of_le_of_lt (Nat.div_le_self _ _) (by omega)
  unfold f_Braid_raise
  rw [if_pos (ck_nI hc (by decide)), if_pos (ck_nI hc (by decide)), nI_clamp (by omega), (h.1 c hc).1, a1, a2, a3, a4, cx_lif hb]
  by_cases z : (A c + v) / 2 ^ D = 0
  · rw [if_pos z]
    refine ⟨_, _, _, rfl, cx_G_up hc h pk_us (by rw [if_pos z]) (fun u hu => ?_) (fun x hx q => ⟨pk_un q, rfl⟩), fun x hx => rfl⟩
    rw [z]
    by_cases w : cx_bt (cx_pU N Q c) u = true
    · rw [if_pos w]; exact (Int64.add_zero _).symm
    · rw [if_neg w]
  · obtain ⟨n', g1, g2⟩ := cx_rn (cx_pU N Q c) (lN ((A c + v) / 2 ^ D)) n
    rw [if_neg z, if_pos (ck_nI hc (by decide)), cx_plC hc hN hQ, cx_ob, g1, cx_ob]
    exact ⟨_, _, _, rfl, cx_G_up hc h pk_us (by rw [if_neg z]; exact pk_us) g2 (fun x hx q => ⟨pk_un q, pk_un q⟩), fun x hx => pk_un hx⟩
theorem cx_raise {D N Q c v : Nat} {S : Nat → Nat} {r m : FI} {n : FJ} (hD : D ≤ 8) (hN : 1 ≤ N ∧ N ≤ 16) (hQ : Q ≤ 3) (hc : c < 24) (hv : v < 2 ^ 60) (h : cx_SEM D N Q S r m n) : ∃ (r' m' : FI) (n' : FJ), f_Braid_raise 200 (nI c) (lN v) r m n (nI D) (nI N) (nI Q) = some (r', m', n') ∧ cx_SEM D N Q (fun x => if x = c then S c + v else S x) r' m' n' := by
  obtain ⟨r', m', n', g1, g2, _⟩ := cx_raiseG hD hN hQ hc hv (Nat.lt_of_lt_of_le (cx_2D hD (S c)) (by decide)) (cx_S_G h)
  exact ⟨r', m', n', g1, cx_G_SEM g2⟩
/-- the model's rows of one braid -/
def cx_vr (b : Nat) (row : FI) : FI := fun c => row (23 + 48 * b + c)
def cx_vm (b : Nat) (row : FI) : FI := fun c => row (23 + 48 * b + 24 + c)
def cx_vn (b : Nat) (num : FJ) : FJ := fun u => num (32 * b + 16 + u)
def cx_vt (b : Nat) (num : FJ) : FJ := fun f => num (32 * b + f)
