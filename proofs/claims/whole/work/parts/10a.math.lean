/-! THE MATHEMATICS: no machine from here on. Words of the pure functions, loops. -/
theorem ubi_mk {α β : Type} (m : Um) (a : α) (f : Um → α → Option β) : ubi (some (m, a)) f = f m a := id rfl
theorem ubx_l {α β : Type} (m : Um) (a : α) (f : Um → α → Option (Um × (β ⊕ String))) : ubx (some (m, .inl a)) f = f m a := id rfl
theorem ubx_r {α β : Type} (m : Um) (X : String) (f : Um → α → Option (Um × (β ⊕ String))) : ubx (some (m, .inr X)) f = some (m, .inr X) := id rfl
theorem ugd_t {α : Type} (t : Option α) : ugd true t = t := id rfl
theorem ub01_0 : ub01 0 = true := by decide
theorem ub01_1 : ub01 1 = true := by decide
theorem uin_n {k n : Nat} (h : k < n) (hn : k < 2 ^ 31) : uin (nI k) n = true := by
  unfold uin
  rw [nI_clamp hn]
  exact decide_eq_true (fun q => q.elim (nI_pos hn) (fun q => by omega))
/-- bool and int -/
def bi (b : Bool) : Int32 := if b = true then 1 else 0
theorem ub01_bi (b : Bool) : ub01 (bi b) = true := by cases b <;> decide
theorem bi_t : bi true = 1 := id rfl
theorem bi_f : bi false = 0 := id rfl
theorem bi_eq0 (b : Bool) : (bi b = 0) = (b = false) := by cases b <;> decide
theorem bi_eq1 (b : Bool) : (bi b = 1) = (b = true) := by cases b <;> decide
theorem bi_inj (a b : Bool) : (bi a = bi b) = (a = b) := by cases a <;> cases b <;> decide
theorem ite_bi0 {α : Type} (b : Bool) (x y : α) : (if bi b = 0 then x else y) = if b = true then y else x := by cases b <;> rfl
theorem ite_bi1 {α : Type} (b : Bool) (x y : α) : (if bi b = 1 then x else y) = if b = true then x else y := by cases b <;> rfl
theorem bi_ite (c : Prop) [Decidable c] : (if c then (1 : Int32) else 0) = bi (decide c) := by by_cases h : c <;> simp [h, bi]
theorem bi_ite' (c : Prop) [Decidable c] : (if c then (0 : Int32) else 1) = bi (decide ¬ c) := by by_cases h : c <;> simp [h, bi]
/-! literals and small ints -/
theorem lit_nI (k : Nat) : (OfNat.ofNat k : Int32) = nI k := rfl
theorem lit_add (k t : Nat) : (no_index (OfNat.ofNat k) : Int32) + nI t = nI (OfNat.ofNat k + t) := nI_add k t
theorem add_lit (k t : Nat) : nI t + (no_index (OfNat.ofNat k) : Int32) = nI (t + OfNat.ofNat k) := nI_add t k
theorem nI_mul (a b : Nat) : nI a * nI b = nI (a * b) := (Int32.ofNat_mul a b).symm
theorem lit_mul (k t : Nat) : (no_index (OfNat.ofNat k) : Int32) * nI t = nI (OfNat.ofNat k * t) := nI_mul k t
theorem mul_lit (k t : Nat) : nI t * (no_index (OfNat.ofNat k) : Int32) = nI (t * OfNat.ofNat k) := nI_mul t k
theorem lit_le {k t : Nat} (hk : (OfNat.ofNat k : Nat) < 2 ^ 31) (ht : t < 2 ^ 31) : ((no_index (OfNat.ofNat k) : Int32) ≤ nI t) = ((OfNat.ofNat k : Nat) ≤ t) := propext (nI_leI hk ht)
theorem le_lit {k t : Nat} (hk : (OfNat.ofNat k : Nat) < 2 ^ 31) (ht : t < 2 ^ 31) : (nI t ≤ (no_index (OfNat.ofNat k) : Int32)) = (t ≤ (OfNat.ofNat k : Nat)) := propext (nI_leI ht hk)
theorem lit_lt {k t : Nat} (hk : (OfNat.ofNat k : Nat) < 2 ^ 31) (ht : t < 2 ^ 31) : ((no_index (OfNat.ofNat k) : Int32) < nI t) = ((OfNat.ofNat k : Nat) < t) := propext (nI_ltI hk ht)
theorem lt_lit {k t : Nat} (hk : (OfNat.ofNat k : Nat) < 2 ^ 31) (ht : t < 2 ^ 31) : (nI t < (no_index (OfNat.ofNat k) : Int32)) = (t < (OfNat.ofNat k : Nat)) := propext (nI_ltI ht hk)
theorem nI_le' {a b : Nat} (ha : a < 2 ^ 31) (hb : b < 2 ^ 31) : (nI a ≤ nI b) = (a ≤ b) := propext (nI_leI ha hb)
theorem nI_lt' {a b : Nat} (ha : a < 2 ^ 31) (hb : b < 2 ^ 31) : (nI a < nI b) = (a < b) := propext (nI_ltI ha hb)
theorem nI_eq' {a b : Nat} (ha : a < 2 ^ 31) (hb : b < 2 ^ 31) : (nI a = nI b) = (a = b) := propext (nI_eq ha hb)
theorem nI_sub {a b : Nat} (h : b ≤ a) : nI a - nI b = nI (a - b) := by
  have : nI (a - b) + nI b = nI a := by rw [nI_add]; congr 1; omega
  rw [← this, Int32.add_sub_cancel]
theorem sub_lit {k t : Nat} (h : (OfNat.ofNat k : Nat) ≤ t) : nI t - (no_index (OfNat.ofNat k) : Int32) = nI (t - OfNat.ofNat k) := nI_sub h
theorem nI_ne1 {a : Nat} (ha : a < 2 ^ 31) : (nI a = -1) = False := by
  refine propext ⟨fun h => ?_, False.elim⟩
  have h1 : (nI a).toInt = -1 := by rw [h]; decide
  rw [nI_toInt ha] at h1
  omega
theorem nle_lit {k t : Nat} (h : t < (OfNat.ofNat k : Nat)) (hk : (OfNat.ofNat k : Nat) < 2 ^ 31) : ¬ (no_index (OfNat.ofNat k) : Int32) ≤ nI t := nI_ge h hk
theorem lit_leq {k t : Nat} (h : (OfNat.ofNat k : Nat) ≤ t) (ht : t < 2 ^ 31) : (no_index (OfNat.ofNat k) : Int32) ≤ nI t := nI_le h ht
theorem lit_ltq {k t : Nat} (h : (OfNat.ofNat k : Nat) < t) (ht : t < 2 ^ 31) : (no_index (OfNat.ofNat k) : Int32) < nI t := nI_lt h ht
theorem nlt_lit {k t : Nat} (h : (OfNat.ofNat k : Nat) ≤ t) (ht : t < 2 ^ 31) : ¬ nI t < (no_index (OfNat.ofNat k) : Int32) := nI_nlt h ht
theorem leq_lit {k t : Nat} (h : t ≤ (OfNat.ofNat k : Nat)) (ht : (OfNat.ofNat k : Nat) < 2 ^ 31) : nI t ≤ (no_index (OfNat.ofNat k) : Int32) := nI_le h ht
theorem ltq_lit {k t : Nat} (h : t < (OfNat.ofNat k : Nat)) (ht : (OfNat.ofNat k : Nat) < 2 ^ 31) : nI t < (no_index (OfNat.ofNat k) : Int32) := nI_lt h ht
theorem lit_nlt {k t : Nat} (h : t ≤ (OfNat.ofNat k : Nat)) (hk : (OfNat.ofNat k : Nat) < 2 ^ 31) : ¬ (no_index (OfNat.ofNat k) : Int32) < nI t := nI_nlt h hk
/-! the memory -/
theorem um_wa_s (m : Um) (c : Nat) (f : Nat → Int32) : um_wa m c f c = f := if_pos rfl
theorem um_wa_n {m : Um} {c d : Nat} {f : Nat → Int32} (h : d ≠ c) : um_wa m c f d = m d := if_neg h
theorem um_wa_wa (m : Um) (c : Nat) (f g : Nat → Int32) : um_wa (um_wa m c f) c g = um_wa m c g := by
  funext d
  unfold um_wa
  by_cases h : d = c <;> simp [h]
theorem um_wa_id (m : Um) (c : Nat) : um_wa m c (m c) = m := by
  funext d
  unfold um_wa
  by_cases h : d = c <;> simp [h]
theorem um_wa_com {m : Um} {c d : Nat} {f g : Nat → Int32} (h : c ≠ d) : um_wa (um_wa m c f) d g = um_wa (um_wa m d g) c f := by
  funext e
  unfold um_wa
  by_cases h1 : e = c
  · by_cases h2 : e = d
    · exact absurd (h1.symm.trans h2) h
    · simp [h1, h]
  · by_cases h2 : e = d
    · simp [h2, Ne.symm h]
    · simp [h1, h2]
theorem upd_s (f : Nat → Int32) (k : Nat) (x : Int32) : upd f k x k = x := if_pos rfl
theorem upd_n {f : Nat → Int32} {k j : Nat} {x : Int32} (h : j ≠ k) : upd f k x j = f j := if_neg h
theorem upd_upd (f : Nat → Int32) (k : Nat) (x y : Int32) : upd (upd f k x) k y = upd f k y := by
  funext d
  unfold upd
  by_cases h : d = k <;> simp [h]
theorem upd_com {f : Nat → Int32} {k j : Nat} {x y : Int32} (h : k ≠ j) : upd (upd f k x) j y = upd (upd f j y) k x := by
  funext e
  unfold upd
  by_cases h1 : e = k
  · by_cases h2 : e = j
    · exact absurd (h1.symm.trans h2) h
    · simp [h1, h]
  · by_cases h2 : e = j
    · simp [h2, Ne.symm h]
    · simp [h1, h2]
theorem upd_id (f : Nat → Int32) (k : Nat) : upd f k (f k) = f := by
  funext d
  unfold upd
  by_cases h : d = k <;> simp [h]
theorem um_w_def (m : Um) (c k : Nat) (v : Int32) : um_w m c k v = um_wa m c (upd (m c) k v) := id rfl
/-! loops -/
def lp {σ : Type} (f : Nat → σ → σ) : Nat → Nat → σ → σ
  | 0, _, s => s
  | k + 1, t, s => lp f k (t + 1) (f t s)
theorem lp_run {σ β : Type} (F : Nat → σ → Nat → Option β) (N : Nat) (f : Nat → σ → σ) (P : Nat → σ → Prop) (out : σ → Option β)
    (h1 : ∀ n s t, t < N → P t s → F (n + 1) s t = F n (f t s) (t + 1) ∧ P (t + 1) (f t s)) (h2 : ∀ n s, P N s → F (n + 1) s N = out s) :
    ∀ k t s n, t + k = N → k < n → P t s → F n s t = out (lp f k t s)
  | 0, t, s, 0, _, hn, _ => absurd hn (Nat.lt_irrefl 0)
  | 0, t, s, n + 1, hk, _, hP => by
    have : t = N := by omega
    subst this
    exact h2 n s hP
  | k + 1, t, s, 0, _, hn, _ => absurd hn (Nat.not_lt_zero _)
  | k + 1, t, s, n + 1, hk, hn, hP => by
    obtain ⟨e, hP'⟩ := h1 n s t (by omega) hP
    rw [e]
    exact lp_run F N f P out h1 h2 k (t + 1) (f t s) n (by omega) (by omega) hP'
theorem lp_run0 {σ β : Type} (F : Nat → σ → Nat → Option β) (N : Nat) (f : Nat → σ → σ) (out : σ → Option β)
    (h1 : ∀ n s t, t < N → F (n + 1) s t = F n (f t s) (t + 1)) (h2 : ∀ n s, F (n + 1) s N = out s) (s : σ) (hN : N < UF) : F UF s 0 = out (lp f N 0 s) :=
  lp_run F N f (fun _ _ => True) out (fun n s t h _ => ⟨h1 n s t h, trivial⟩) (fun n s _ => h2 n s) N 0 s UF (Nat.zero_add N) hN trivial
theorem lp_add {σ : Type} (f : Nat → σ → σ) : ∀ (a b t : Nat) (s : σ), lp f (a + b) t s = lp f b (t + a) (lp f a t s)
  | 0, b, t, s => by rw [Nat.zero_add]; rfl
  | a + 1, b, t, s => by
    rw [show a + 1 + b = (a + b) + 1 by omega]
    show lp f (a + b) (t + 1) (f t s) = _
    rw [lp_add f a b (t + 1) (f t s), show t + 1 + a = t + (a + 1) by omega]
    rfl
theorem lp_succ {σ : Type} (f : Nat → σ → σ) (k t : Nat) (s : σ) : lp f (k + 1) t s = f (t + k) (lp f k t s) := by
  rw [lp_add f k 1 t s]
  rfl
theorem lp_id {σ : Type} (f : Nat → σ → σ) : ∀ (k t : Nat) (s : σ), (∀ j, t ≤ j → j < t + k → ∀ s, f j s = s) → lp f k t s = s
  | 0, _, _, _ => rfl
  | k + 1, t, s, h => by
    show lp f k (t + 1) (f t s) = s
    rw [h t (Nat.le_refl _) (by omega) s]
    exact lp_id f k (t + 1) s (fun j h1 h2 => h j (by omega) (by omega))
/-- what lies above T does nothing -/
theorem lp_cut {σ : Type} (f : Nat → σ → σ) {T N : Nat} (hT : T ≤ N) (s : σ) (h : ∀ j, T ≤ j → j < N → ∀ s, f j s = s) : lp f N 0 s = lp f T 0 s := by
  obtain ⟨d, rfl⟩ := Nat.exists_eq_add_of_le hT
  rw [lp_add f T d 0 s, Nat.zero_add]
  exact lp_id f d T _ (fun j h1 h2 => h j h1 h2)
theorem lp_idP {σ : Type} (f : Nat → σ → σ) (P : σ → Prop) : ∀ (k t : Nat) (s : σ), P s → (∀ j, t ≤ j → j < t + k → ∀ s, P s → f j s = s) → lp f k t s = s
  | 0, _, _, _, _ => rfl
  | k + 1, t, s, hs, h => by
    show lp f k (t + 1) (f t s) = s
    rw [h t (Nat.le_refl _) (by omega) s hs]
    exact lp_idP f P k (t + 1) s hs (fun j h1 h2 => h j (by omega) (by omega))
theorem lp_cutP {σ : Type} (f : Nat → σ → σ) (P : σ → Prop) {T N : Nat} (hT : T ≤ N) (s : σ) (hP : P (lp f T 0 s)) (h : ∀ j, T ≤ j → j < N → ∀ s, P s → f j s = s) : lp f N 0 s = lp f T 0 s := by
  obtain ⟨d, rfl⟩ := Nat.exists_eq_add_of_le hT
  rw [lp_add f T d 0 s, Nat.zero_add]
  exact lp_idP f P d T _ hP (fun j h1 h2 => h j h1 h2)
theorem lp_cong {σ : Type} {f g : Nat → σ → σ} : ∀ (k t : Nat) (s : σ), (∀ j, t ≤ j → j < t + k → ∀ s, f j s = g j s) → lp f k t s = lp g k t s
  | 0, _, _, _ => rfl
  | k + 1, t, s, h => by
    show lp f k (t + 1) (f t s) = lp g k (t + 1) (g t s)
    rw [h t (Nat.le_refl _) (by omega) s]
    exact lp_cong k (t + 1) _ (fun j h1 h2 => h j (by omega) (by omega))
theorem lp_cong0 {σ : Type} {f g : Nat → σ → σ} (k : Nat) (s : σ) (h : ∀ j, j < k → ∀ s, f j s = g j s) : lp f k 0 s = lp g k 0 s := lp_cong k 0 s (fun j _ h2 => h j (by omega))
/-- what holds of the start and is kept holds of the end -/
theorem lp_ind {σ : Type} {f : Nat → σ → σ} (P : Nat → σ → Prop) : ∀ (k t : Nat) (s : σ), P t s → (∀ j s, t ≤ j → j < t + k → P j s → P (j + 1) (f j s)) → P (t + k) (lp f k t s)
  | 0, t, s, h, _ => h
  | k + 1, t, s, h, h1 => by
    have := lp_ind P k (t + 1) (f t s) (h1 t s (Nat.le_refl _) (by omega) h) (fun j s a b => h1 j s (by omega) (by omega))
    rw [show t + 1 + k = t + (k + 1) by omega] at this
    exact this
theorem lp_ind0 {σ : Type} {f : Nat → σ → σ} (P : Nat → σ → Prop) (k : Nat) (s : σ) (h : P 0 s) (h1 : ∀ j s, j < k → P j s → P (j + 1) (f j s)) : P k (lp f k 0 s) := by
  have := lp_ind P k 0 s h (fun j s _ b => h1 j s (by omega))
  rwa [Nat.zero_add] at this
/-- two loops in step -/
theorem lp_sim {σ τ : Type} {f : Nat → σ → σ} {g : Nat → τ → τ} (Q : σ → τ → Prop) : ∀ (k t : Nat) (s : σ) (u : τ), Q s u → (∀ j s u, t ≤ j → j < t + k → Q s u → Q (f j s) (g j u)) → Q (lp f k t s) (lp g k t u)
  | 0, _, _, _, h, _ => h
  | k + 1, t, s, u, h, h1 => lp_sim Q k (t + 1) (f t s) (g t u) (h1 t s u (Nat.le_refl _) (by omega) h) (fun j s u a b => h1 j s u (by omega) (by omega))
/-! bits and sums -/
def bt (t : Nat) : Int32 := 1 <<< (nI t &&& 31)
def bits (n : Nat) (p : Nat → Bool) : Int32 := lp (fun t a => if p t = true then a ||| bt t else a) n 0 0
def sums (n : Nat) (w : Nat → Int32) : Int32 := lp (fun t a => a + w t) n 0 0
theorem bits_cong {n : Nat} {p q : Nat → Bool} (h : ∀ t, t < n → p t = q t) : bits n p = bits n q := lp_cong0 n 0 (fun j hj s => by rw [h j hj])
theorem bits_cut {T N : Nat} {p : Nat → Bool} (hT : T ≤ N) (h : ∀ j, T ≤ j → j < N → p j = false) : bits N p = bits T p := lp_cut _ hT 0 (fun j h1 h2 s => by rw [h j h1 h2]; rfl)
theorem sums_cong {n : Nat} {p q : Nat → Int32} (h : ∀ t, t < n → p t = q t) : sums n p = sums n q := lp_cong0 n 0 (fun j hj s => by rw [h j hj])
theorem sums_cut {T N : Nat} {p : Nat → Int32} (hT : T ≤ N) (h : ∀ j, T ≤ j → j < N → p j = 0) : sums N p = sums T p := lp_cut _ hT 0 (fun j h1 h2 s => by rw [h j h1 h2, Int32.add_zero])
theorem bits_succ (n : Nat) (p : Nat → Bool) : bits (n + 1) p = if p n = true then bits n p ||| bt n else bits n p := by
  unfold bits
  rw [lp_succ, Nat.zero_add]
theorem sums_succ (n : Nat) (w : Nat → Int32) : sums (n + 1) w = sums n w + w n := by
  unfold sums
  rw [lp_succ, Nat.zero_add]
theorem bt_get : ∀ t, t < 32 → (bt t).toBitVec = (1#32) <<< t := by decide +kernel
theorem sh_mod : ∀ t, t < 32 → ((nI t &&& 31).toBitVec.smod 32#32).toNat = t := by decide +kernel
theorem bit_get (x : Int32) {t : Nat} (ht : t < 32) : ((x >>> (nI t &&& 31)) &&& 1) = bi (x.toBitVec.getLsbD t) := by
  apply Int32.toBitVec_inj.mp
  have e1 : (x >>> (nI t &&& 31)).toBitVec = x.toBitVec.sshiftRight t := by
    show x.toBitVec.sshiftRight' ((nI t &&& 31).toBitVec.smod 32#32) = _
    rw [BitVec.sshiftRight_eq', sh_mod t ht]
  rw [Int32.toBitVec_and, e1]
  apply BitVec.eq_of_getLsbD_eq
  intro i hi
  rw [BitVec.getLsbD_and, BitVec.getLsbD_sshiftRight]
  have e2 : (1 : Int32).toBitVec = 1#32 := rfl
  rw [e2, BitVec.getLsbD_one]
  by_cases h0 : i = 0
  · subst h0
    simp [ht, bi]
    generalize x.toBitVec[t] = q
    cases q <;> rfl
  · have : (bi (x.toBitVec.getLsbD t)).toBitVec.getLsbD i = false := by
      cases x.toBitVec.getLsbD t
      · exact BitVec.getLsbD_zero
      · show (1#32).getLsbD i = false
        rw [BitVec.getLsbD_one]
        simp [h0]
    rw [this]
    simp [h0]
theorem bits_get {n : Nat} (p : Nat → Bool) {i : Nat} : n ≤ 32 → (bits n p).toBitVec.getLsbD i = (decide (i < n) && p i) := by
  induction n with
  | zero =>
    intro _
    show (0#32).getLsbD i = _
    simp
  | succ n ih =>
    intro hn
    have ih := ih (by omega)
    rw [bits_succ]
    by_cases h : p n = true
    · rw [if_pos h, Int32.toBitVec_or, BitVec.getLsbD_or, ih, bt_get n (by omega), BitVec.getLsbD_shiftLeft, BitVec.getLsbD_one]
      by_cases hi : i = n
      · subst hi
        simp [h]
        omega
      · by_cases h2 : i < n
        · simp [h2, show i < n + 1 by omega]
        · simp [h2, show ¬ i < n + 1 by omega, show ¬ i < n by omega]
          omega
    · rw [if_neg h, ih]
      by_cases hi : i = n
      · subst hi
        simp at h
        simp [h]
      · by_cases h2 : i < n
        · simp [h2, show i < n + 1 by omega]
        · simp [h2, show ¬ i < n + 1 by omega]
/-- a bit of bits -/
theorem bits_bit {n : Nat} (p : Nat → Bool) {t : Nat} (hn : n ≤ 32) (ht : t < n) : ((bits n p >>> (nI t &&& 31)) &&& 1) = bi (p t) := by
  rw [bit_get _ (by omega), bits_get p hn]
  simp [ht]
theorem bits_zero {n : Nat} (p : Nat → Bool) (hn : n ≤ 32) : bits n p = 0 ↔ ∀ t, t < n → p t = false := by
  constructor
  · intro h t ht
    have h1 := bits_get p (i := t) hn
    rw [h] at h1
    have h2 : (0 : Int32).toBitVec.getLsbD t = false := BitVec.getLsbD_zero
    rw [h2] at h1
    simp [ht] at h1
    exact h1
  · intro h
    apply Int32.toBitVec_inj.mp
    apply BitVec.eq_of_getLsbD_eq
    intro i hi
    rw [bits_get p hn]
    have h2 : (0 : Int32).toBitVec.getLsbD i = false := BitVec.getLsbD_zero
    rw [h2]
    by_cases hi : i < n
    · simp [h i hi]
    · simp [hi]
