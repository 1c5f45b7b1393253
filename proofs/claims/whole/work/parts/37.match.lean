/-! ===== matchings: counting ===== -/
theorem cn_s (p : Nat → Bool) (n : Nat) : fa_cnt p (n + 1) = fa_cnt p n + (p n).toNat := by
  cases h : p n with
  | false => rw [fa_cnt_no h]; rfl
  | true => rw [fa_cnt_yes h]; rfl
theorem tf {P : Prop} (h : true = false) : P := Bool.noConfusion h
theorem ft {P : Prop} (h : false = true) : P := Bool.noConfusion h
theorem cn_rm {Q : Nat → Bool} {c : Nat} (hq : Q c = true) : ∀ m, c < m → fa_cnt Q m = fa_cnt (fun i => Q i && decide (i ≠ c)) m + 1
  | m + 1, h => by
    rcases Nat.lt_or_ge c m with z | z
    · have ih := cn_rm hq m z
      have e : (Q m && decide (m ≠ c)) = Q m := by simp [show m ≠ c by omega]
      simp only [cn_s, e]
      omega
    · obtain rfl : c = m := by omega
      rw [fa_cnt_yes hq, fa_cnt_no (by simp)]
      congr 1
      exact fa_cnt_cong (fun k hk => by simp [show k ≠ c by omega])
theorem cn_rel (R : Nat → Nat → Prop) : ∀ (n m : Nat) (P Q : Nat → Bool), (∀ b, b < n → P b = true → ∃ c, c < m ∧ Q c = true ∧ R b c) → (∀ b1 b2 c, b1 < n → b2 < n → P b1 = true → P b2 = true → R b1 c → R b2 c → b1 = b2) → fa_cnt P n ≤ fa_cnt Q m
  | 0, m, P, Q, _, _ => Nat.zero_le _
  | n + 1, m, P, Q, h1, h2 => by
    cases hP : P n with
    | false =>
      rw [fa_cnt_no hP]
      exact cn_rel R n m P Q (fun b hb => h1 b (by omega)) (fun b1 b2 c l1 l2 => h2 b1 b2 c (by omega) (by omega))
    | true =>
      obtain ⟨c, hc, hq, hr⟩ := h1 n (by omega) hP
      rw [fa_cnt_yes hP, cn_rm hq m hc]
      refine Nat.succ_le_succ (cn_rel R n m P (fun i => Q i && decide (i ≠ c)) (fun b hb pb => ?_) (fun b1 b2 c l1 l2 => h2 b1 b2 c (by omega) (by omega)))
      obtain ⟨c', hc', hq', hr'⟩ := h1 b (by omega) pb
      refine ⟨c', hc', ?_, hr'⟩
      have : c' ≠ c := by
        intro e
        subst e
        exact absurd (h2 b n c' (by omega) (by omega) pb hP hr' hr) (by omega)
      simp [hq', this]
theorem cn_split (P D : Nat → Bool) : ∀ n, fa_cnt P n = fa_cnt (fun i => P i && D i) n + fa_cnt (fun i => P i && !D i) n
  | 0 => rfl
  | n + 1 => by
    have ih := cn_split P D n
    simp only [cn_s]
    cases P n <;> cases D n <;> simp <;> omega
theorem cn_mono {P Q : Nat → Bool} : ∀ n, (∀ k, k < n → P k = true → Q k = true) → fa_cnt P n ≤ fa_cnt Q n
  | 0, _ => Nat.le_refl 0
  | n + 1, h => by
    have ih := cn_mono n (fun k hk => h k (by omega))
    have h1 := h n (by omega)
    simp only [cn_s]
    cases hP : P n with
    | false => simp; omega
    | true => rw [h1 hP]; omega
theorem cn_upd (p : Option Nat → Bool) (M : Nat → Option Nat) (b : Nat) (y : Option Nat) : ∀ n, b < n → fa_cnt (fun c => p (va_up M b y c)) n + (p (M b)).toNat = fa_cnt (fun c => p (M c)) n + (p y).toNat
  | n + 1, h => by
    rcases Nat.lt_or_ge b n with z | z
    · have ih := cn_upd p M b y n z
      simp only [cn_s]
      rw [show va_up M b y n = M n from if_neg (by omega)]
      omega
    · obtain rfl : b = n := by omega
      simp only [cn_s]
      rw [show va_up M b y b = y from if_pos rfl, fa_cnt_cong (p := fun c => p (va_up M b y c)) (q := fun c => p (M c)) (fun k hk => by show p (va_up M b y k) = p (M k); rw [show va_up M b y k = M k from if_neg (by omega)])]
      omega
/-- a matching: which buyer's row f ≤ x < na each seller's row b < nb has; rows that are taken have none -/
def vM (E : Nat → Nat → Bool) (f na nb : Nat) (tk : Nat → Bool) (h : Nat → Option Nat) : Prop :=
  (∀ b x, b < nb → h b = some x → f ≤ x ∧ x < na ∧ E x b = true ∧ tk b = false) ∧ ∀ b c x, b < nb → c < nb → h b = some x → h c = some x → b = c
def sz (nb : Nat) (h : Nat → Option Nat) : Nat := fa_cnt (fun b => (h b).isSome) nb
def Mx (E : Nat → Nat → Bool) (f na nb : Nat) (tk : Nat → Bool) (n : Nat) : Prop :=
  (∃ h, vM E f na nb tk h ∧ sz nb h = n) ∧ ∀ h, vM E f na nb tk h → sz nb h ≤ n
theorem Mx_un {E : Nat → Nat → Bool} {f na nb : Nat} {tk : Nat → Bool} {n m : Nat} (h1 : Mx E f na nb tk n) (h2 : Mx E f na nb tk m) : n = m := by
  obtain ⟨⟨a, a1, a2⟩, a3⟩ := h1
  obtain ⟨⟨b, b1, b2⟩, b3⟩ := h2
  have := a3 b b1
  have := b3 a a1
  omega
/-- a cover: no matching is greater -/
theorem mx_cert {E : Nat → Nat → Bool} {f na nb : Nat} {tk : Nat → Bool} {M : Nat → Option Nat} (Da : Nat → Prop) (Db : Nat → Bool)
    (h1 : ∀ b, b < nb → Db b = true → ∃ x, M b = some x ∧ Da x) (h2 : ∀ x b, Da x → f ≤ x → x < na → b < nb → E x b = true → tk b = false → Db b = true)
    (h3 : ∀ x, f ≤ x → x < na → Da x ∨ ∃ b, b < nb ∧ M b = some x) {h : Nat → Option Nat} (hh : vM E f na nb tk h) : sz nb h ≤ sz nb M := by
  unfold sz
  rw [cn_split (fun b => (h b).isSome) Db nb, cn_split (fun b => (M b).isSome) Db nb]
  have A : fa_cnt (fun i => (h i).isSome && Db i) nb ≤ fa_cnt (fun i => (M i).isSome && Db i) nb := by
    refine cn_mono nb (fun k hk z => ?_)
    have z2 : Db k = true := (Bool.and_eq_true_iff.mp z).2
    obtain ⟨x, e, _⟩ := h1 k hk z2
    show ((M k).isSome && Db k) = true
    rw [e, z2]; rfl
  have B : fa_cnt (fun i => (h i).isSome && !Db i) nb ≤ fa_cnt (fun i => (M i).isSome && !Db i) nb := by
    refine cn_rel (fun b c => h b = M c) nb nb _ _ (fun b hb z => ?_) (fun b1 b2 c l1 l2 p1 p2 r1 r2 => ?_)
    · obtain ⟨z1, z2⟩ := Bool.and_eq_true_iff.mp z
      obtain ⟨x, e⟩ := Option.isSome_iff_exists.mp z1
      obtain ⟨l1, l2, l3, l4⟩ := hh.1 b x hb e
      have nd : ¬ Da x := fun d => by
        have := h2 x b d l1 l2 hb l3 l4
        rw [this] at z2
        exact absurd z2 (by decide)
      obtain ⟨c, hc, ec⟩ := (h3 x l1 l2).resolve_left nd
      refine ⟨c, hc, ?_, by rw [e, ec]⟩
      have dc : Db c = false := by
        cases hd : Db c with
        | false => rfl
        | true =>
          obtain ⟨x', e', d'⟩ := h1 c hc hd
          rw [ec] at e'
          cases e'
          exact absurd d' nd
      show ((M c).isSome && !Db c) = true
      rw [ec, dc]; rfl
    · obtain ⟨z1, _⟩ := Bool.and_eq_true_iff.mp p1
      obtain ⟨x, e⟩ := Option.isSome_iff_exists.mp z1
      exact hh.2 b1 b2 x l1 l2 e (by rw [r2, ← r1, e])
  omega
/-! ===== Kuhn's search ===== -/
abbrev KS : Type := (Nat → Option Nat) × (Nat → Bool)
def kL (E : Nat → Nat → Bool) (tk : Nat → Bool) (rc : Nat → KS → Bool × KS) (a : Nat) : Nat → Nat → KS → Bool × KS
  | 0, _, s => (false, s)
  | r + 1, b, s =>
    if tk b = true then kL E tk rc a r (b + 1) s else if s.2 b = true then kL E tk rc a r (b + 1) s
    else if E a b = true then
      (match s.1 b with
      | none => (true, (va_up s.1 b (some a), va_up s.2 b true))
      | some x => if (rc x (s.1, va_up s.2 b true)).1 = true then (true, (va_up (rc x (s.1, va_up s.2 b true)).2.1 b (some a), (rc x (s.1, va_up s.2 b true)).2.2)) else kL E tk rc a r (b + 1) (rc x (s.1, va_up s.2 b true)).2)
    else kL E tk rc a r (b + 1) s
def kF (E : Nat → Nat → Bool) (tk : Nat → Bool) (nb : Nat) : Nat → Nat → KS → Bool × KS
  | 0, _, s => (false, s)
  | d + 1, a, s => kL E tk (kF E tk nb d) a nb 0 s
/-- how many are not tried -/
def un (nb : Nat) (t : Nat → Bool) : Nat := fa_cnt (fun b => !t b) nb
theorem un_up {nb : Nat} {t : Nat → Bool} {b : Nat} (hb : b < nb) (ht : t b = false) : un nb t = un nb (va_up t b true) + 1 := by
  unfold un
  rw [cn_rm (Q := fun b => !t b) (c := b) (by show (!t b) = true; rw [ht]; rfl) nb hb]
  congr 1
  refine fa_cnt_cong (fun k _ => ?_)
  show (!t k && decide (k ≠ b)) = !(va_up t b true k)
  by_cases e : k = b
  · rw [show va_up t b true k = true from if_pos e]; simp [e]
  · rw [show va_up t b true k = t k from if_neg e]; simp [e]
theorem un_mono {nb : Nat} {t u : Nat → Bool} (h : ∀ b, t b = true → u b = true) : un nb u ≤ un nb t := by
  refine cn_mono nb (fun k _ z => ?_)
  have z : (!u k) = true := z
  show (!t k) = true
  cases ht : t k with
  | false => rfl
  | true => rw [h k ht] at z; exact z
/-- what a search keeps, whatever its fuel -/
def kA (s : KS) (z : Bool × KS) : Prop := (∀ b, s.2 b = true → z.2.2 b = true ∧ z.2.1 b = s.1 b) ∧ (z.1 = false → z.2.1 = s.1)
theorem kL_A {E : Nat → Nat → Bool} {tk : Nat → Bool} {rc : Nat → KS → Bool × KS} (hr : ∀ a s, kA s (rc a s)) (a : Nat) : ∀ r b s, kA s (kL E tk rc a r b s)
  | 0, b, s => ⟨fun _ h => ⟨h, rfl⟩, fun _ => rfl⟩
  | r + 1, b, s => by
    rw [kL]
    split
    · exact kL_A hr a r (b + 1) s
    split
    · exact kL_A hr a r (b + 1) s
    next hs =>
    have hs : s.2 b = false := by cases h : s.2 b with | false => rfl | true => exact absurd h hs
    split
    · have ne : ∀ c, s.2 c = true → c ≠ b := fun c hc e => by rw [e, hs] at hc; exact absurd hc (by decide)
      split
      · exact ⟨fun c hc => ⟨by show va_up s.2 b true c = true; rw [show va_up s.2 b true c = s.2 c from if_neg (ne c hc)]; exact hc, if_neg (ne c hc)⟩, fun z => tf z⟩
      · next x ex =>
        have h1 := hr x (s.1, va_up s.2 b true)
        have h2 : ∀ c, s.2 c = true → va_up s.2 b true c = true := fun c hc => by rw [show va_up s.2 b true c = s.2 c from if_neg (ne c hc)]; exact hc
        split
        · refine ⟨fun c hc => ⟨(h1.1 c (h2 c hc)).1, ?_⟩, fun z => tf z⟩
          exact (if_neg (ne c hc)).trans (h1.1 c (h2 c hc)).2
        · next hf =>
          have hf : (rc x (s.1, va_up s.2 b true)).1 = false := by cases h : (rc x (s.1, va_up s.2 b true)).1 with | false => rfl | true => exact absurd h hf
          have h3 := kL_A (E := E) (tk := tk) hr a r (b + 1) (rc x (s.1, va_up s.2 b true)).2
          have h4 : (rc x (s.1, va_up s.2 b true)).2.1 = s.1 := h1.2 hf
          refine ⟨fun c hc => ?_, fun z => (h3.2 z).trans h4⟩
          have h5 := h1.1 c (h2 c hc)
          have h6 := h3.1 c h5.1
          exact ⟨h6.1, h6.2.trans h5.2⟩
    · exact kL_A hr a r (b + 1) s
theorem kF_A (E : Nat → Nat → Bool) (tk : Nat → Bool) (nb : Nat) : ∀ d a s, kA s (kF E tk nb d a s)
  | 0, a, s => ⟨fun _ h => ⟨h, rfl⟩, fun _ => rfl⟩
  | d + 1, a, s => kL_A (fun a s => kF_A E tk nb d a s) a nb 0 s
/-- a failed search leaves a closed set behind -/
def kB (E : Nat → Nat → Bool) (tk : Nat → Bool) (nb b0 a : Nat) (s : KS) (z : Bool × KS) : Prop :=
  z.1 = false → (∀ b, b0 ≤ b → b < nb → tk b = false → E a b = true → z.2.2 b = true) ∧ (∀ b, b < nb → z.2.2 b = true → s.2 b = false → tk b = false ∧ ∃ x, s.1 b = some x ∧ ∀ c, c < nb → tk c = false → E x c = true → z.2.2 c = true)
theorem kL_B {E : Nat → Nat → Bool} {tk : Nat → Bool} {nb : Nat} {rc : Nat → KS → Bool × KS} {d : Nat} (hA : ∀ a s, kA s (rc a s)) (hr : ∀ a s, un nb s.2 < d → kB E tk nb 0 a s (rc a s)) (a : Nat) : ∀ r b s, b + r = nb → un nb s.2 < d + 1 → kB E tk nb b a s (kL E tk rc a r b s)
  | 0, b, s, hb, hu => fun _ => ⟨fun c h1 h2 => by omega, fun c _ h1 h2 => by rw [show (kL E tk rc a 0 b s).2.2 c = s.2 c from rfl, h2] at h1; exact absurd h1 (by decide)⟩
  | r + 1, b, s, hb, hu => by
    have skip : (tk b = true ∨ s.2 b = true ∨ ¬ E a b = true) → kB E tk nb b a s (kL E tk rc a r (b + 1) s) := fun hw z => by
      obtain ⟨k1, k2⟩ := kL_B hA hr a r (b + 1) s (by omega) hu z
      refine ⟨fun c h1 h2 h3 h4 => ?_, k2⟩
      rcases Nat.lt_or_ge b c with w | w
      · exact k1 c w h2 h3 h4
      · obtain rfl : c = b := by omega
        rcases hw with w | w | w
        · rw [w] at h3; exact absurd h3 (by decide)
        · exact ((kL_A hA a r (c + 1) s).1 c w).1
        · exact absurd h4 w
    rw [kL]
    split
    · next h => exact skip (Or.inl h)
    next htk =>
    have htk : tk b = false := by cases h : tk b with | false => rfl | true => exact absurd h htk
    split
    · next h => exact skip (Or.inr (Or.inl h))
    next hs =>
    have hs : s.2 b = false := by cases h : s.2 b with | false => rfl | true => exact absurd h hs
    split
    · split
      · exact fun z => tf z
      · next x ex =>
        split
        · exact fun z => tf z
        · next hf =>
          have hf : (rc x (s.1, va_up s.2 b true)).1 = false := by cases h : (rc x (s.1, va_up s.2 b true)).1 with | false => rfl | true => exact absurd h hf
          have hu1 := un_up (nb := nb) (t := s.2) (b := b) (by omega) hs
          obtain ⟨q1, q2⟩ := hr x (s.1, va_up s.2 b true) (by show un nb (va_up s.2 b true) < d; omega) hf
          have hA1 := hA x (s.1, va_up s.2 b true)
          have h4 : (rc x (s.1, va_up s.2 b true)).2.1 = s.1 := hA1.2 hf
          have hmono : ∀ c, va_up s.2 b true c = true → (rc x (s.1, va_up s.2 b true)).2.2 c = true := fun c hc => (hA1.1 c hc).1
          have hun := un_mono (nb := nb) hmono
          generalize rc x (s.1, va_up s.2 b true) = y at q1 q2 h4 hmono hun ⊢
          intro z
          obtain ⟨k1, k2⟩ := kL_B hA hr a r (b + 1) y.2 (by omega) (by omega) z
          have h6 := (kL_A (E := E) (tk := tk) hA a r (b + 1) y.2).1
          have bb : va_up s.2 b true b = true := if_pos rfl
          refine ⟨fun c h1 h2 h3 h5 => ?_, fun c hc h1 h2 => ?_⟩
          · rcases Nat.lt_or_ge b c with w | w
            · exact k1 c w h2 h3 h5
            · obtain rfl : c = b := by omega
              exact (h6 c (hmono c bb)).1
          · cases hy : y.2.2 c with
            | false =>
              obtain ⟨g1, x', g2, g3⟩ := k2 c hc h1 hy
              exact ⟨g1, x', by rw [← h4]; exact g2, g3⟩
            | true =>
              by_cases e : c = b
              · subst e
                exact ⟨htk, x, ex, fun c' l1 l2 l3 => (h6 c' (q1 c' (Nat.zero_le _) l1 l2 l3)).1⟩
              · obtain ⟨g1, x', g2, g3⟩ := q2 c hc hy (by show va_up s.2 b true c = false; rw [show va_up s.2 b true c = s.2 c from if_neg e]; exact h2)
                exact ⟨g1, x', g2, fun c' l1 l2 l3 => (h6 c' (g3 c' l1 l2 l3)).1⟩
    · next h => exact skip (Or.inr (Or.inr h))
theorem kF_B (E : Nat → Nat → Bool) (tk : Nat → Bool) (nb : Nat) : ∀ d a s, un nb s.2 < d → kB E tk nb 0 a s (kF E tk nb d a s)
  | 0, a, s, h => absurd h (Nat.not_lt_zero _)
  | d + 1, a, s, h => kL_B (fun a s => kF_A E tk nb d a s) (fun a s h => kF_B E tk nb d a s h) a nb 0 s (Nat.zero_add _) h
/-- a search that found: one more, all else as it was -/
def kC (E : Nat → Nat → Bool) (tk : Nat → Bool) (nb a : Nat) (s : KS) (z : Bool × KS) : Prop :=
  z.1 = true → (∀ p : Option Nat → Bool, fa_cnt (fun c => p (z.2.1 c)) nb + (p none).toNat = fa_cnt (fun c => p (s.1 c)) nb + (p (some a)).toNat)
    ∧ ∀ b, b < nb → z.2.1 b = s.1 b ∨ (tk b = false ∧ ∃ x, z.2.1 b = some x ∧ E x b = true ∧ (x = a ∨ ∃ c, c < nb ∧ s.1 c = some x))
theorem kL_C {E : Nat → Nat → Bool} {tk : Nat → Bool} {nb : Nat} {rc : Nat → KS → Bool × KS} (hA : ∀ a s, kA s (rc a s)) (hr : ∀ a s, kC E tk nb a s (rc a s)) (a : Nat) : ∀ r b s, b + r = nb → kC E tk nb a s (kL E tk rc a r b s)
  | 0, b, s, hb => fun z => ft z
  | r + 1, b, s, hb => by
    rw [kL]
    split
    · exact kL_C hA hr a r (b + 1) s (by omega)
    next htk =>
    have htk : tk b = false := by cases h : tk b with | false => rfl | true => exact absurd h htk
    split
    · exact kL_C hA hr a r (b + 1) s (by omega)
    split
    · next hE =>
      split
      · next ex =>
        refine fun _ => ⟨fun p => ?_, fun c hc => ?_⟩
        · have := cn_upd p s.1 b (some a) nb (by omega)
          rw [ex] at this
          exact this
        · by_cases e : c = b
          · subst e
            exact Or.inr ⟨htk, a, if_pos rfl, hE, Or.inl rfl⟩
          · exact Or.inl (if_neg e)
      · next x ex =>
        have hA1 := hA x (s.1, va_up s.2 b true)
        have hr1 := hr x (s.1, va_up s.2 b true)
        split
        · next hf =>
          obtain ⟨c1, c2⟩ := hr1 hf
          have hb1 : (rc x (s.1, va_up s.2 b true)).2.1 b = some x := ((hA1.1 b (if_pos rfl)).2).trans ex
          generalize rc x (s.1, va_up s.2 b true) = y at c1 c2 hb1 ⊢
          refine fun _ => ⟨fun p => ?_, fun c hc => ?_⟩
          · have h1 := cn_upd p y.2.1 b (some a) nb (by omega)
            rw [hb1] at h1
            have h2 : fa_cnt (fun c => p (y.2.1 c)) nb + (p none).toNat = fa_cnt (fun c => p (s.1 c)) nb + (p (some x)).toNat := c1 p
            show fa_cnt (fun c => p (va_up y.2.1 b (some a) c)) nb + _ = _
            omega
          · by_cases e : c = b
            · subst e
              exact Or.inr ⟨htk, a, if_pos rfl, hE, Or.inl rfl⟩
            · rcases c2 c hc with h | ⟨g1, x', g2, g3, g4⟩
              · exact Or.inl ((if_neg e).trans h)
              · refine Or.inr ⟨g1, x', (if_neg e).trans g2, g3, ?_⟩
                rcases g4 with g4 | g4
                · exact Or.inr ⟨b, by omega, by rw [g4]; exact ex⟩
                · exact Or.inr g4
        · next hf =>
          have hf : (rc x (s.1, va_up s.2 b true)).1 = false := by cases h : (rc x (s.1, va_up s.2 b true)).1 with | false => rfl | true => exact absurd h hf
          have h4 : (rc x (s.1, va_up s.2 b true)).2.1 = s.1 := hA1.2 hf
          intro z
          have := kL_C hA hr a r (b + 1) (rc x (s.1, va_up s.2 b true)).2 (by omega) z
          rw [h4] at this
          exact this
    · exact kL_C hA hr a r (b + 1) s (by omega)
theorem kF_C (E : Nat → Nat → Bool) (tk : Nat → Bool) (nb : Nat) : ∀ d a s, kC E tk nb a s (kF E tk nb d a s)
  | 0, a, s => fun z => ft z
  | d + 1, a, s => kL_C (fun a s => kF_A E tk nb d a s) (fun a s => kF_C E tk nb d a s) a nb 0 s (Nat.zero_add _)
/-- closed sets are not entered -/
def kD (nb : Nat) (Da : Nat → Prop) (Db : Nat → Bool) (a : Nat) (s : KS) (z : Bool × KS) : Prop :=
  (∀ b, b < nb → Db b = true → ∃ x, s.1 b = some x ∧ Da x) → (Da a → z.1 = false) ∧ ∀ b, b < nb → Db b = true → z.2.1 b = s.1 b
theorem kL_D {E : Nat → Nat → Bool} {tk : Nat → Bool} {nb : Nat} {Da : Nat → Prop} {Db : Nat → Bool} (hcl : ∀ x b, Da x → b < nb → tk b = false → E x b = true → Db b = true) {rc : Nat → KS → Bool × KS} (hA : ∀ a s, kA s (rc a s)) (hr : ∀ a s, kD nb Da Db a s (rc a s)) (a : Nat) : ∀ r b s, b + r = nb → kD nb Da Db a s (kL E tk rc a r b s)
  | 0, b, s, hb => fun _ => ⟨fun _ => rfl, fun _ _ _ => rfl⟩
  | r + 1, b, s, hb => by
    rw [kL]
    split
    · exact kL_D hcl hA hr a r (b + 1) s (by omega)
    next htk =>
    have htk : tk b = false := by cases h : tk b with | false => rfl | true => exact absurd h htk
    split
    · exact kL_D hcl hA hr a r (b + 1) s (by omega)
    split
    · next hE =>
      split
      · next ex =>
        intro hc
        have nb1 : ¬ Db b = true := fun d => by obtain ⟨x, e, _⟩ := hc b (by omega) d; rw [ex] at e; cases e
        refine ⟨fun da => absurd (hcl a b da (by omega) htk hE) nb1, fun c hc1 d => if_neg (fun e => nb1 (by rw [← e]; exact d))⟩
      · next x ex =>
        have hA1 := hA x (s.1, va_up s.2 b true)
        have hr1 := hr x (s.1, va_up s.2 b true)
        intro hc
        obtain ⟨d1, d2⟩ := hr1 hc
        split
        · next hf =>
          have nb1 : ¬ Db b = true := fun d => by
            obtain ⟨x', e, dx⟩ := hc b (by omega) d
            rw [ex] at e
            cases e
            rw [d1 dx] at hf
            exact absurd hf (by decide)
          exact ⟨fun da => absurd (hcl a b da (by omega) htk hE) nb1, fun c hc1 d => (if_neg (fun e => nb1 (by rw [← e]; exact d))).trans (d2 c hc1 d)⟩
        · next hf =>
          have hf : (rc x (s.1, va_up s.2 b true)).1 = false := by cases h : (rc x (s.1, va_up s.2 b true)).1 with | false => rfl | true => exact absurd h hf
          have h4 : (rc x (s.1, va_up s.2 b true)).2.1 = s.1 := hA1.2 hf
          have := kL_D hcl hA hr a r (b + 1) (rc x (s.1, va_up s.2 b true)).2 (by omega) (by rw [h4]; exact hc)
          rw [h4] at this
          exact this
    · exact kL_D hcl hA hr a r (b + 1) s (by omega)
theorem kF_D {E : Nat → Nat → Bool} {tk : Nat → Bool} {nb : Nat} {Da : Nat → Prop} {Db : Nat → Bool} (hcl : ∀ x b, Da x → b < nb → tk b = false → E x b = true → Db b = true) : ∀ d a s, kD nb Da Db a s (kF E tk nb d a s)
  | 0, a, s => fun _ => ⟨fun _ => rfl, fun _ _ _ => rfl⟩
  | d + 1, a, s => kL_D hcl (fun a s => kF_A E tk nb d a s) (fun a s => kF_D hcl d a s) a nb 0 s (Nat.zero_add _)
/-- the rows one after the other -/
def kM (E : Nat → Nat → Bool) (tk : Nat → Bool) (nb : Nat) : Nat → Nat → Nat → KS → Nat × KS
  | 0, _, n, s => (n, s)
  | r + 1, a, n, s => kM E tk nb r (a + 1) (n + if (kF E tk nb (nb + 1) a (s.1, fun j => if j < nb then false else s.2 j)).1 = true then 1 else 0) (kF E tk nb (nb + 1) a (s.1, fun j => if j < nb then false else s.2 j)).2
def kIv (E : Nat → Nat → Bool) (f nb : Nat) (tk : Nat → Bool) (a n : Nat) (M : Nat → Option Nat) : Prop :=
  (∀ b x, b < nb → M b = some x → f ≤ x ∧ x < a ∧ E x b = true ∧ tk b = false) ∧ (∀ x, fa_cnt (fun c => decide (M c = some x)) nb ≤ 1) ∧ sz nb M = n ∧
  ∃ (Da : Nat → Prop) (Db : Nat → Bool), (∀ b, b < nb → Db b = true → ∃ x, M b = some x ∧ Da x) ∧ (∀ x b, Da x → b < nb → tk b = false → E x b = true → Db b = true) ∧ ∀ x, f ≤ x → x < a → Da x ∨ ∃ b, b < nb ∧ M b = some x
theorem cn_pos {P : Nat → Bool} : ∀ n, 0 < fa_cnt P n → ∃ b, b < n ∧ P b = true
  | 0, h => absurd h (Nat.lt_irrefl 0)
  | n + 1, h => by
    cases hP : P n with
    | true => exact ⟨n, Nat.lt_succ_self n, hP⟩
    | false =>
      rw [fa_cnt_no hP] at h
      obtain ⟨b, h1, h2⟩ := cn_pos n h
      exact ⟨b, by omega, h2⟩
theorem cn_one {P : Nat → Bool} {n b : Nat} (hb : b < n) (h : P b = true) : 0 < fa_cnt P n := by
  rw [cn_rm h n hb]; omega
theorem cn_two {P : Nat → Bool} {n b c : Nat} (hb : b < n) (hc : c < n) (h : P b = true) (h2 : P c = true) (h3 : fa_cnt P n ≤ 1) : b = c := by
  by_cases e : b = c
  · exact e
  · have h4 := cn_rm h n hb
    have h5 := cn_one (P := fun i => P i && decide (i ≠ b)) hc (by show (P c && decide (c ≠ b)) = true; rw [h2]; simp; exact fun z => e z.symm)
    omega
theorem kIv_step {E : Nat → Nat → Bool} {f nb : Nat} {tk : Nat → Bool} {a n : Nat} {s : KS} (hfa : f ≤ a) (h : kIv E f nb tk a n s.1) :
    kIv E f nb tk (a + 1) (n + if (kF E tk nb (nb + 1) a (s.1, fun j => if j < nb then false else s.2 j)).1 = true then 1 else 0) (kF E tk nb (nb + 1) a (s.1, fun j => if j < nb then false else s.2 j)).2.1 := by
  obtain ⟨h1, h2, h3, Da, Db, d1, d2, d3⟩ := h
  have ht : ∀ b, b < nb → (fun j => if j < nb then false else s.2 j) b = false := fun b hb => if_pos hb
  generalize (fun j => if j < nb then false else s.2 j) = t at ht ⊢
  have hu : un nb t < nb + 1 := Nat.lt_succ_of_le (fa_cnt_le _ _)
  have qA := kF_A E tk nb (nb + 1) a (s.1, t)
  have qB := kF_B E tk nb (nb + 1) a (s.1, t) hu
  have qC := kF_C E tk nb (nb + 1) a (s.1, t)
  have qD := kF_D d2 (nb + 1) a (s.1, t) d1
  generalize kF E tk nb (nb + 1) a (s.1, t) = z at qA qB qC qD ⊢
  cases hz : z.1 with
  | false =>
    have e : z.2.1 = s.1 := qA.2 hz
    obtain ⟨q1, q2⟩ := qB hz
    rw [if_neg (by decide), e]
    refine ⟨fun b x hb hx => ?_, h2, h3, fun x => Da x ∨ x = a ∨ ∃ b, b < nb ∧ z.2.2 b = true ∧ s.1 b = some x, fun b => Db b || z.2.2 b, fun b hb hd => ?_, fun x b hx hb ht1 hE => ?_, fun x l1 l2 => ?_⟩
    · obtain ⟨g1, g2, g3⟩ := h1 b x hb hx
      exact ⟨g1, by omega, g3⟩
    · rcases Bool.or_eq_true_iff.mp hd with w | w
      · obtain ⟨x, e1, e2⟩ := d1 b hb w
        exact ⟨x, e1, Or.inl e2⟩
      · obtain ⟨_, x, e1, _⟩ := q2 b hb w (ht b hb)
        exact ⟨x, e1, Or.inr (Or.inr ⟨b, hb, w, e1⟩)⟩
    · refine Bool.or_eq_true_iff.mpr ?_
      rcases hx with w | w | ⟨c, hc, w, e1⟩
      · exact Or.inl (d2 x b w hb ht1 hE)
      · subst w
        exact Or.inr (q1 b (Nat.zero_le _) hb ht1 hE)
      · obtain ⟨_, x', e2, g⟩ := q2 c hc w (ht c hc)
        have e3 : x' = x := Option.some.inj (e2.symm.trans e1)
        subst e3
        exact Or.inr (g b hb ht1 hE)
    · rcases Nat.lt_or_ge x a with w | w
      · rcases d3 x l1 w with g | g
        · exact Or.inl (Or.inl g)
        · exact Or.inr g
      · exact Or.inl (Or.inr (Or.inl (by omega)))
  | true =>
    obtain ⟨c1, c2⟩ := qC hz
    rw [if_pos rfl]
    have occ : ∀ x, fa_cnt (fun c => decide (z.2.1 c = some x)) nb = fa_cnt (fun c => decide (s.1 c = some x)) nb + if x = a then 1 else 0 := fun x => by
      have h9 := c1 (fun y => decide (y = some x))
      have h8 : (decide ((none : Option Nat) = some x)).toNat = 0 := rfl
      have h7 : (decide (some a = some x)).toNat = if x = a then 1 else 0 := by
        by_cases e : x = a
        · subst e; simp
        · rw [if_neg e, decide_eq_false (fun z => e (Option.some.inj z).symm)]; rfl
      have h6 : fa_cnt (fun c => decide (z.2.1 c = some x)) nb + (decide ((none : Option Nat) = some x)).toNat = fa_cnt (fun c => decide (s.1 c = some x)) nb + (decide (some a = some x)).toNat := h9
      rw [h8, h7] at h6
      exact h6
    have a0 : fa_cnt (fun c => decide (s.1 c = some a)) nb = 0 := by
      rcases Nat.eq_zero_or_pos (fa_cnt (fun c => decide (s.1 c = some a)) nb) with w | w
      · exact w
      · obtain ⟨b, hb, e⟩ := cn_pos nb w
        have := (h1 b a hb (of_decide_eq_true e)).2.1
        omega
    refine ⟨fun b x hb hx => ?_, fun x => ?_, ?_, Da, Db, fun b hb hd => ?_, d2, fun x l1 l2 => ?_⟩
    · rcases c2 b hb with w | ⟨g1, x', g2, g3, g4⟩
      · have w : z.2.1 b = s.1 b := w
        rw [w] at hx
        obtain ⟨g1, g2, g3⟩ := h1 b x hb hx
        exact ⟨g1, by omega, g3⟩
      · have e3 : x' = x := Option.some.inj (g2.symm.trans hx)
        subst e3
        rcases g4 with g4 | ⟨c, hc, g4⟩
        · exact ⟨by omega, by omega, g3, g1⟩
        · have := h1 c x' hc g4
          exact ⟨this.1, by omega, g3, g1⟩
    · rw [occ x]
      by_cases e : x = a
      · subst e; rw [a0]; simp
      · rw [if_neg e]; exact h2 x
    · have := c1 (fun y => y.isSome)
      have e : fa_cnt (fun c => (z.2.1 c).isSome) nb + 0 = fa_cnt (fun c => (s.1 c).isSome) nb + 1 := this
      unfold sz at h3 ⊢
      omega
    · obtain ⟨x, e1, e2⟩ := d1 b hb hd
      exact ⟨x, by rw [qD.2 b hb hd]; exact e1, e2⟩
    · rcases Nat.lt_or_ge x a with w | w
      · rcases d3 x l1 w with g | ⟨b, hb, g⟩
        · exact Or.inl g
        · refine Or.inr ?_
          have p1 : 0 < fa_cnt (fun c => decide (s.1 c = some x)) nb := cn_one hb (decide_eq_true g)
          obtain ⟨b', hb', e⟩ := cn_pos nb (P := fun c => decide (z.2.1 c = some x)) (by rw [occ x]; omega)
          exact ⟨b', hb', of_decide_eq_true e⟩
      · obtain rfl : x = a := by omega
        obtain ⟨b', hb', e⟩ := cn_pos nb (P := fun c => decide (z.2.1 c = some x)) (by rw [occ x, if_pos rfl]; omega)
        exact Or.inr ⟨b', hb', of_decide_eq_true e⟩
theorem kM_Iv {E : Nat → Nat → Bool} {f nb : Nat} {tk : Nat → Bool} : ∀ (r a n : Nat) (s : KS), f ≤ a → kIv E f nb tk a n s.1 → kIv E f nb tk (a + r) (kM E tk nb r a n s).1 (kM E tk nb r a n s).2.1
  | 0, a, n, s, _, h => h
  | r + 1, a, n, s, hf, h => by
    rw [kM, show a + (r + 1) = a + 1 + r by omega]
    exact kM_Iv r (a + 1) _ _ (by omega) (kIv_step hf h)
theorem kIv_Mx {E : Nat → Nat → Bool} {f na nb : Nat} {tk : Nat → Bool} {n : Nat} {M : Nat → Option Nat} (h : kIv E f nb tk na n M) : Mx E f na nb tk n := by
  obtain ⟨h1, h2, h3, Da, Db, d1, d2, d3⟩ := h
  refine ⟨⟨M, ⟨fun b x hb hx => h1 b x hb hx, fun b c x hb hc e1 e2 => cn_two hb hc (decide_eq_true e1) (decide_eq_true e2) (h2 x)⟩, h3⟩, fun g hg => ?_⟩
  rw [← h3]
  exact mx_cert Da Db d1 (fun x b hx _ _ hb hE ht => d2 x b hx hb ht hE) d3 hg
theorem kIv_0 (E : Nat → Nat → Bool) (f nb : Nat) (tk : Nat → Bool) (M : Nat → Option Nat) (h : ∀ b, b < nb → M b = none) : kIv E f nb tk f 0 M := by
  have e : ∀ p : Option Nat → Bool, p none = false → fa_cnt (fun c => p (M c)) nb = 0 := fun p hp => by
    rcases Nat.eq_zero_or_pos (fa_cnt (fun c => p (M c)) nb) with w | w
    · exact w
    · obtain ⟨b, hb, z⟩ := cn_pos nb w
      have z : p (M b) = true := z
      rw [h b hb, hp] at z
      exact absurd z (by decide)
  refine ⟨fun b x hb hx => ?_, fun x => ?_, e (fun y => y.isSome) rfl, fun _ => False, fun _ => false, fun b hb z => ft z, fun x b z => z.elim, fun x l1 l2 => by omega⟩
  · rw [h b hb] at hx; cases hx
  · rw [e (fun y => decide (y = some x)) (by simp)]; omega
/-- as many pairs as can be, of the buyer's rows f .. na - 1 -/
def kX (E : Nat → Nat → Bool) (f na nb : Nat) (tk : Nat → Bool) : Nat := (kM E tk nb (na - f) f 0 (fun _ => none, fun _ => false)).1
theorem kM_Mx {E : Nat → Nat → Bool} {f na nb : Nat} {tk : Nat → Bool} (hf : f ≤ na) (s : KS) (hs : ∀ b, b < nb → s.1 b = none) : Mx E f na nb tk (kM E tk nb (na - f) f 0 s).1 := by
  have := kM_Iv (na - f) f 0 s (Nat.le_refl f) (kIv_0 E f nb tk s.1 hs)
  rw [show f + (na - f) = na by omega] at this
  exact kIv_Mx this
theorem kX_Mx {E : Nat → Nat → Bool} {f na nb : Nat} {tk : Nat → Bool} (hf : f ≤ na) : Mx E f na nb tk (kX E f na nb tk) := kM_Mx hf _ (fun _ _ => rfl)
theorem kM_kX {E : Nat → Nat → Bool} {f na nb : Nat} {tk : Nat → Bool} (hf : f ≤ na) (s : KS) (hs : ∀ b, b < nb → s.1 b = none) : (kM E tk nb (na - f) f 0 s).1 = kX E f na nb tk := Mx_un (kM_Mx hf s hs) (kX_Mx hf)
