/-! what a duel comes to: sums, pairs, ways -/
theorem smR_congr {f g : Nat → Nat} : ∀ {n : Nat}, (∀ i, i < n → f i = g i) → smR f n = smR g n
  | 0, _ => rfl
  | n + 1, h => by
    show smR f n + f n = smR g n + g n
    rw [smR_congr (fun i hi => h i (by omega)), h n (by omega)]
theorem smR_plus (f g : Nat → Nat) : ∀ n, smR (fun i => f i + g i) n = smR f n + smR g n
  | 0 => rfl
  | n + 1 => by
    show smR (fun i => f i + g i) n + (f n + g n) = (smR f n + f n) + (smR g n + g n)
    rw [smR_plus f g n]; omega
theorem smR_zero : ∀ n, smR (fun _ => 0) n = 0
  | 0 => rfl
  | n + 1 => smR_zero n
theorem smR_const (c : Nat) : ∀ n, smR (fun _ => c) n = n * c
  | 0 => by simp [smR]
  | n + 1 => by
    show smR (fun _ => c) n + c = (n + 1) * c
    rw [smR_const c n, Nat.succ_mul]
theorem smR_split (f : Nat → Nat) (a : Nat) : ∀ b, smR f (a + b) = smR f a + smR (fun j => f (a + j)) b
  | 0 => rfl
  | b + 1 => by
    show smR f (a + b) + f (a + b) = smR f a + (smR (fun j => f (a + j)) b + f (a + b))
    rw [smR_split f a b]; omega
theorem smR_swap (h : Nat → Nat → Nat) : ∀ a b, smR (fun i => smR (fun j => h i j) b) a = smR (fun j => smR (fun i => h i j) a) b
  | 0, b => (smR_zero b).symm
  | a + 1, b => by
    show smR (fun i => smR (fun j => h i j) b) a + smR (fun j => h a j) b = smR (fun j => smR (fun i => h i j) a + h a j) b
    rw [smR_swap h a b, smR_plus]
theorem smR_mono {f g : Nat → Nat} : ∀ {n : Nat}, (∀ i, i < n → f i ≤ g i) → smR f n ≤ smR g n
  | 0, _ => Nat.le_refl _
  | n + 1, h => Nat.add_le_add (smR_mono (fun i hi => h i (by omega))) (h n (by omega))
theorem smR_one {f : Nat → Nat} : ∀ {n k : Nat}, k < n → f k ≤ smR f n
  | 0, k, h => by omega
  | n + 1, k, h => by
    show f k ≤ smR f n + f n
    rcases Nat.lt_succ_iff_lt_or_eq.mp h with h | h
    · have := smR_one (f := f) h; omega
    · subst h; omega
theorem ldR_smR (P : List Nat) (i : Nat) : ∀ n, ldR P i n = smR (fun j => if j = i then 0 else sc2 (P.getD i 0) (P.getD j 0)) n
  | 0 => rfl
  | n + 1 => by
    show ldR P i n + _ = _ + _
    rw [ldR_smR P i n]
theorem ldS_smR (P : List Nat) : ∀ n, ldS P n = smR (ldN P) n
  | 0 => rfl
  | n + 1 => by
    show ldS P n + ldN P n = _ + _
    rw [ldS_smR P n]
theorem sc2_pair (x y : Nat) : sc2 x y + sc2 y x = 2 := by
  unfold sc2
  rcases Nat.lt_trichotomy x y with h | h | h
  · rw [if_pos h, if_neg (by omega), if_neg (by omega)]
  · subst h; rw [if_neg (Nat.lt_irrefl _), if_pos rfl]
  · rw [if_neg (by omega), if_neg (by omega), if_pos h]
/-- the pairs of one row among themselves -/
theorem pairs_in (g : Nat → Nat) (a : Nat) : smR (fun i => smR (fun j => if j = i then 0 else sc2 (g i) (g j)) a) a = a * (a - 1) := by
  have h1 := smR_swap (fun i j => if j = i then 0 else sc2 (g i) (g j)) a a
  have h2 : smR (fun i => smR (fun j => if j = i then 0 else sc2 (g i) (g j)) a) a + smR (fun i => smR (fun j => if j = i then 0 else sc2 (g i) (g j)) a) a = smR (fun i => smR (fun j => if j = i then 0 else 2) a) a := by
    rw [show smR (fun i => smR (fun j => if j = i then 0 else sc2 (g i) (g j)) a) a + smR (fun i => smR (fun j => if j = i then 0 else sc2 (g i) (g j)) a) a = smR (fun i => smR (fun j => if j = i then 0 else sc2 (g i) (g j)) a) a + smR (fun j => smR (fun i => if j = i then 0 else sc2 (g i) (g j)) a) a from by rw [← h1], ← smR_plus]
    refine smR_congr (fun i hi => ?_)
    rw [← smR_plus]
    refine smR_congr (fun j hj => ?_)
    by_cases e : j = i
    · subst e; simp
    · rw [if_neg e, if_neg e, if_neg (fun z => e z.symm)]; exact sc2_pair _ _
  have h3 : ∀ n i, i < n → smR (fun j => if j = i then 0 else 2) n = 2 * (n - 1) := by
    intro n
    induction n with
    | zero => intro i h; omega
    | succ n ih =>
      intro i h
      show smR (fun j => if j = i then 0 else 2) n + (if n = i then 0 else 2) = _
      by_cases e : n = i
      · subst e
        rw [if_pos rfl, smR_congr (g := fun _ => 2) (fun j hj => if_neg (by omega)), smR_const]; omega
      · rw [if_neg e, ih i (by omega)]; omega
  have h4 : smR (fun i => smR (fun j => if j = i then 0 else 2) a) a = a * (2 * (a - 1)) := by
    rw [smR_congr (g := fun _ => 2 * (a - 1)) (fun i hi => h3 a i hi), smR_const]
  have h5 : a * (2 * (a - 1)) = 2 * (a * (a - 1)) := by rw [Nat.mul_left_comm]
  omega
/-- what one row scores against another -/
def crs (A B : List Nat) : Nat := smR (fun i => smR (fun j => sc2 (A.getD i 0) (B.getD j 0)) B.length) A.length
theorem crs_pair (A B : List Nat) : crs A B + crs B A = 2 * (A.length * B.length) := by
  unfold crs
  rw [smR_swap (fun i j => sc2 (B.getD i 0) (A.getD j 0)) B.length A.length, ← smR_plus]
  rw [smR_congr (g := fun _ => 2 * B.length) (fun i hi => ?_), smR_const]
  · rw [Nat.mul_left_comm]
  · rw [← smR_plus, smR_congr (g := fun _ => 2) (fun j hj => sc2_pair _ _), smR_const]; omega
theorem getD_l (A B : List Nat) {i : Nat} (h : i < A.length) : (A ++ B).getD i 0 = A.getD i 0 := by
  rw [List.getD_eq_getElem?_getD, List.getD_eq_getElem?_getD, List.getElem?_append_left h]
theorem getD_r (A B : List Nat) (j : Nat) : (A ++ B).getD (A.length + j) 0 = B.getD j 0 := by
  rw [List.getD_eq_getElem?_getD, List.getD_eq_getElem?_getD, List.getElem?_append_right (by omega), Nat.add_sub_cancel_left]
theorem ldS_first (A B : List Nat) : ldS (A ++ B) A.length = A.length * (A.length - 1) + crs A B := by
  rw [ldS_smR, ← pairs_in (fun i => A.getD i 0) A.length]
  unfold crs
  rw [← smR_plus]
  refine smR_congr (fun i hi => ?_)
  unfold ldN
  rw [ldR_smR, List.length_append, smR_split]
  congr 1
  · refine smR_congr (fun j hj => ?_)
    rw [getD_l A B hi, getD_l A B hj]
  · refine smR_congr (fun j hj => ?_)
    rw [if_neg (by omega), getD_l A B hi, getD_r]
theorem ldS_all (P : List Nat) : ldS P P.length = P.length * (P.length - 1) := by
  rw [ldS_smR, ← pairs_in (fun i => P.getD i 0) P.length]
  refine smR_congr (fun i hi => ?_)
  unfold ldN
  rw [ldR_smR]
theorem crs_le (A B : List Nat) : crs A B ≤ 2 * (A.length * B.length) := by
  have := crs_pair A B
  omega
theorem scI_eq (A B : List Nat) : scI A B = nI (crs A B) := by
  unfold scI
  rw [ldS_first, pk_sub (Nat.le_add_right _ _), Nat.add_sub_cancel_left]
theorem crs_self (A : List Nat) : crs A A = A.length * A.length := by
  have := crs_pair A A
  omega
/-- ===== ways ===== -/
def binN : Nat → Nat → Nat
  | 0, c => if c = 0 then 1 else 0
  | i + 1, 0 => binN i 0
  | i + 1, c + 1 => binN i (c + 1) + binN i c
theorem smR_shift (g : Nat → Nat) (d : Nat) : ∀ n, smR (fun s => if d ≤ s then g (s - d) else 0) n = smR g (n - d)
  | 0 => by rw [Nat.zero_sub]; rfl
  | n + 1 => by
    show smR (fun s => if d ≤ s then g (s - d) else 0) n + (if d ≤ n then g (n - d) else 0) = _
    rw [smR_shift g d n]
    by_cases h : d ≤ n
    · rw [if_pos h, show n + 1 - d = (n - d) + 1 by omega]; rfl
    · rw [if_neg h, show n + 1 - d = 0 by omega, show n - d = 0 by omega]
      exact Nat.add_zero _
theorem wy_sum (le : Nat → Nat) : ∀ (i c U : Nat), smR le i ≤ U → smR (fun s => wy le i c s) (U + 1) = binN i c
  | 0, c, U, _ => by
    show smR (fun s => if c = 0 ∧ s = 0 then 1 else 0) (U + 1) = if c = 0 then 1 else 0
    by_cases h : c = 0
    · subst h
      rw [if_pos rfl]
      have h2 : ∀ n, smR (fun s => if (0 : Nat) = 0 ∧ s = 0 then 1 else 0) (n + 1) = 1 := by
        intro n
        induction n with
        | zero => rfl
        | succ n ih =>
          show smR (fun s => if (0 : Nat) = 0 ∧ s = 0 then 1 else 0) (n + 1) + (if (0 : Nat) = 0 ∧ n + 1 = 0 then 1 else 0) = 1
          rw [ih, if_neg (by omega)]
      exact h2 U
    · rw [if_neg h, smR_congr (g := fun _ => 0) (fun s hs => if_neg (fun z => h z.1)), smR_zero]
  | i + 1, 0, U, h => by
    have h1 : smR le i + le i ≤ U := h
    show smR (fun s => wy le i 0 s) (U + 1) = binN i 0
    exact wy_sum le i 0 U (by omega)
  | i + 1, c + 1, U, h => by
    have h1 : smR le i + le i ≤ U := h
    show smR (fun s => wy le i (c + 1) s + if le i ≤ s then wy le i c (s - le i) else 0) (U + 1) = binN i (c + 1) + binN i c
    rw [smR_plus, wy_sum le i (c + 1) U (by omega), smR_shift (fun s => wy le i c s), show U + 1 - le i = (U - le i) + 1 by omega, wy_sum le i c (U - le i) (by omega)]
theorem wy_up (le : Nat → Nat) : ∀ (i c s : Nat), wy le i c s ≤ wy le (i + 1) c s
  | _, 0, _ => Nat.le_refl _
  | _, _ + 1, _ => Nat.le_add_right _ _
theorem wy_diag (le : Nat → Nat) : ∀ i : Nat, 1 ≤ wy le i i (smR le i)
  | 0 => Nat.le_refl _
  | i + 1 => by
    have h := wy_diag le i
    show 1 ≤ wy le i (i + 1) (smR le i + le i) + (if le i ≤ smR le i + le i then wy le i i (smR le i + le i - le i) else 0)
    rw [if_pos (by omega), Nat.add_sub_cancel]
    omega
theorem wy_hit (le : Nat → Nat) (a : Nat) : ∀ b : Nat, 1 ≤ wy le (a + b) a (smR le a)
  | 0 => wy_diag le a
  | b + 1 => Nat.le_trans (wy_hit le a b) (wy_up le (a + b) a _)
theorem alN_eq (A B : List Nat) : alN A B = binN (A.length + B.length) A.length := by
  unfold alN wyN
  rw [wy_sum (ldN (A ++ B)) (A ++ B).length A.length _ (by rw [← ldS_smR, ldS_all]; exact Nat.le_refl _), List.length_append]
theorem wyN_hit (A B : List Nat) : 1 ≤ wyN A B (ldS (A ++ B) A.length) := by
  unfold wyN
  rw [List.length_append, ldS_smR]
  exact wy_hit (ldN (A ++ B)) A.length B.length
theorem ldS_in (A B : List Nat) : ldS (A ++ B) A.length < (A ++ B).length * ((A ++ B).length - 1) + 1 := by
  rw [← ldS_all, List.length_append, ldS_smR, ldS_smR, smR_split]
  omega
theorem hiN_pos (A B : List Nat) : 0 < hiN A B := by
  have h1 := smR_one (f := fun i9 => if ldS (A ++ B) A.length ≤ i9 then wyN A B i9 else 0) (ldS_in A B)
  have h2 := wyN_hit A B
  rw [if_pos (Nat.le_refl _)] at h1
  unfold hiN
  omega
theorem loN_pos (A B : List Nat) : 0 < loN A B := by
  have h1 := smR_one (f := fun i9 => if i9 ≤ ldS (A ++ B) A.length then wyN A B i9 else 0) (ldS_in A B)
  have h2 := wyN_hit A B
  rw [if_pos (Nat.le_refl _)] at h1
  unfold loN
  omega
theorem hiN_le (A B : List Nat) : hiN A B ≤ alN A B := by
  unfold hiN alN
  refine smR_mono (fun i hi => ?_)
  split
  · exact Nat.le_refl _
  · exact Nat.zero_le _
theorem loN_le (A B : List Nat) : loN A B ≤ alN A B := by
  unfold loN alN
  refine smR_mono (fun i hi => ?_)
  split
  · exact Nat.le_refl _
  · exact Nat.zero_le _
theorem hilo (A B : List Nat) : alN A B < hiN A B + loN A B := by
  have key : ∀ (w : Nat → Nat) (L n : Nat), L < n → smR w n + w L ≤ smR (fun i => if L ≤ i then w i else 0) n + smR (fun i => if i ≤ L then w i else 0) n := by
    intro w L n
    induction n with
    | zero => intro h; omega
    | succ n ih =>
      intro h
      show (smR w n + w n) + w L ≤ (smR (fun i => if L ≤ i then w i else 0) n + (if L ≤ n then w n else 0)) + (smR (fun i => if i ≤ L then w i else 0) n + (if n ≤ L then w n else 0))
      by_cases e : n = L
      · subst e
        rw [if_pos (Nat.le_refl _)]
        have h1 : smR (fun i => if i ≤ n then w i else 0) n = smR w n := smR_congr (fun i hi => if_pos (by omega))
        rw [h1]
        omega
      · have := ih (by omega)
        rw [if_pos (show L ≤ n by omega)]
        omega
  have h := key (wyN A B) (ldS (A ++ B) A.length) _ (ldS_in A B)
  have h2 := wyN_hit A B
  unfold alN hiN loN
  change smR (wyN A B) _ < _
  omega
theorem binN_sym : ∀ a, a < 7 → ∀ b, b < 7 → binN (a + b) a = binN (b + a) b ∧ binN (a + b) a ≤ 924 := by decide +kernel
theorem alN_sym {A B : List Nat} (hA : A.length ≤ 6) (hB : B.length ≤ 6) : alN A B = alN B A ∧ alN A B ≤ 924 := by
  rw [alN_eq, alN_eq]
  exact binN_sym _ (by omega) _ (by omega)
