/-! ===== PLANS: things k < n, slots (TICK, ARM); how many can be taken ===== -/
abbrev Sl : Type := Nat × Nat
def Mg (A : Nat → Sl → Prop) (P : Nat → Prop) (F : Sl → Prop) (g : Nat → Option Sl) : Prop := (∀ k s, g k = some s → P k ∧ A k s ∧ ¬ F s) ∧ ∀ k j s, g k = some s → g j = some s → k = j
def sz (g : Nat → Option Sl) : Nat → Nat
  | 0 => 0
  | n + 1 => sz g n + (if (g n).isSome = true then 1 else 0)
def IsMax (A : Nat → Sl → Prop) (P : Nat → Prop) (F : Sl → Prop) (n m : Nat) : Prop := (∃ g, Mg A P F g ∧ sz g n = m) ∧ ∀ g, Mg A P F g → sz g n ≤ m
theorem IsMax.uniq {A : Nat → Sl → Prop} {P : Nat → Prop} {F : Sl → Prop} {n m m' : Nat} (h : IsMax A P F n m) (h' : IsMax A P F n m') : m = m' := by
  obtain ⟨⟨g, h1, h2⟩, h3⟩ := h
  obtain ⟨⟨g', h1', h2'⟩, h3'⟩ := h'
  have a := h3 _ h1'
  have b := h3' _ h1
  omega
theorem IsMax.congr {A A' : Nat → Sl → Prop} {P P' : Nat → Prop} {F F' : Sl → Prop} {n m : Nat} (hA : ∀ k s, P k → (A k s ↔ A' k s)) (hP : ∀ k, P k ↔ P' k) (hF : ∀ k s, P k → A k s → (F s ↔ F' s)) (h : IsMax A P F n m) : IsMax A' P' F' n m := by
  have key : ∀ g, Mg A P F g ↔ Mg A' P' F' g := by
    intro g
    constructor
    · rintro ⟨h1, h2⟩
      refine ⟨fun k s hk => ?_, h2⟩
      obtain ⟨a, b, c⟩ := h1 k s hk
      exact ⟨(hP k).mp a, (hA k s a).mp b, fun z => c ((hF k s a b).mpr z)⟩
    · rintro ⟨h1, h2⟩
      refine ⟨fun k s hk => ?_, h2⟩
      obtain ⟨a, b, c⟩ := h1 k s hk
      have a' := (hP k).mpr a
      have b' := (hA k s a').mpr b
      exact ⟨a', b', fun z => c ((hF k s a' b').mp z)⟩
  obtain ⟨⟨g, h1, h2⟩, h3⟩ := h
  exact ⟨⟨g, (key g).mp h1, h2⟩, fun g hg => h3 g ((key g).mpr hg)⟩
/-- as many of the first n as places that hold yes -/
def cnt (p : Nat → Bool) : Nat → Nat
  | 0 => 0
  | n + 1 => cnt p n + (if p n = true then 1 else 0)
theorem sz_cnt (g : Nat → Option Sl) (n : Nat) : sz g n = cnt (fun k => (g k).isSome) n := by
  induction n with
  | zero => rfl
  | succ n ih => simp only [sz, cnt, ih]
theorem cnt_le (p : Nat → Bool) (n : Nat) : cnt p n ≤ n := by
  induction n with
  | zero => exact Nat.le_refl 0
  | succ n ih => simp only [cnt]; split <;> omega
theorem cnt_congr {p q : Nat → Bool} {n : Nat} (h : ∀ k, k < n → p k = q k) : cnt p n = cnt q n := by
  induction n with
  | zero => rfl
  | succ n ih => simp only [cnt]; rw [ih (fun k hk => h k (by omega)), h n (by omega)]
theorem cnt_add {p q : Nat → Bool} {u n : Nat} (hu : u < n) (h1 : p u = false) (h2 : q u = true) (h : ∀ k, k < n → k ≠ u → p k = q k) : cnt q n = cnt p n + 1 := by
  induction n with
  | zero => omega
  | succ n ih =>
    simp only [cnt]
    by_cases e : u = n
    · subst e
      rw [cnt_congr (p := p) (q := q) (fun k hk => h k (by omega) (by omega)), h1, h2]
      simp
    · rw [ih (by omega) (fun k hk => h k (by omega)), h n (by omega) (by omega)]
      omega
theorem nodup_sub_len {l1 l2 : List Nat} (hn : l1.Nodup) (hs : ∀ x ∈ l1, x ∈ l2) : l1.length ≤ l2.length := by
  induction l1 generalizing l2 with
  | nil => simp
  | cons a l ih =>
    have ha : a ∈ l2 := hs a List.mem_cons_self
    have hn' := List.nodup_cons.mp hn
    have h1 := ih hn'.2 (l2 := l2.erase a) (fun x hx => by
      have hne : x ≠ a := fun e => hn'.1 (e ▸ hx)
      exact (List.mem_erase_of_ne hne).mpr (hs x (List.mem_cons_of_mem _ hx)))
    rw [List.length_erase_of_mem ha] at h1
    have hpos : 0 < l2.length := List.length_pos_of_mem ha
    simp only [List.length_cons]
    omega
theorem cnt_filter (p : Nat → Bool) (n : Nat) : cnt p n = ((List.range n).filter p).length := by
  induction n with
  | zero => rfl
  | succ n ih =>
    rw [List.range_succ, List.filter_append, List.length_append, ← ih]
    simp only [cnt, List.filter_cons, List.filter_nil]
    split <;> rfl
theorem nodup_map_on {l : List Nat} {φ : Nat → Nat} (hn : l.Nodup) (h : ∀ x ∈ l, ∀ y ∈ l, φ x = φ y → x = y) : (l.map φ).Nodup := by
  induction l with
  | nil => simp
  | cons a l ih =>
    have hn' := List.nodup_cons.mp hn
    rw [List.map_cons, List.nodup_cons]
    refine ⟨fun hm => ?_, ih hn'.2 (fun x hx y hy => h x (List.mem_cons_of_mem _ hx) y (List.mem_cons_of_mem _ hy))⟩
    obtain ⟨x, hx, he⟩ := List.mem_map.mp hm
    have := h x (List.mem_cons_of_mem _ hx) a List.mem_cons_self he
    exact hn'.1 (this ▸ hx)
theorem cnt_inj {p q : Nat → Bool} {n : Nat} (φ : Nat → Nat) (h1 : ∀ k, k < n → p k = true → φ k < n ∧ q (φ k) = true) (h2 : ∀ j k, j < n → k < n → p j = true → p k = true → φ j = φ k → j = k) : cnt p n ≤ cnt q n := by
  rw [cnt_filter, cnt_filter]
  have hn : ((List.range n).filter p).Nodup := List.nodup_range.filter p
  have hm : (((List.range n).filter p).map φ).Nodup := nodup_map_on hn (fun x hx y hy he => by
    have a := List.mem_filter.mp hx
    have b := List.mem_filter.mp hy
    exact h2 x y (List.mem_range.mp a.1) (List.mem_range.mp b.1) a.2 b.2 he)
  have := nodup_sub_len hm (l2 := (List.range n).filter q) (fun x hx => by
    obtain ⟨k, hk, rfl⟩ := List.mem_map.mp hx
    have a := List.mem_filter.mp hk
    obtain ⟨b, c⟩ := h1 k (List.mem_range.mp a.1) a.2
    exact List.mem_filter.mpr ⟨List.mem_range.mpr b, c⟩)
  rwa [List.length_map] at this
/-- D is shut: what a thing of D could have, another thing of D holds -/
def Shut (A : Nat → Sl → Prop) (F : Sl → Prop) (f : Nat → Option Sl) (D : Nat → Prop) : Prop := ∀ k s, D k → A k s → ¬ F s → ∃ j, D j ∧ f j = some s
theorem cert {A : Nat → Sl → Prop} {P : Nat → Prop} {F : Sl → Prop} {n : Nat} {f : Nat → Option Sl} {D : Nat → Prop} (hP : ∀ k, P k → k < n) (hf : Mg A P F f) (h1 : ∀ k, P k → f k = none → D k) (h2 : Shut A F f D) {g : Nat → Option Sl} (hg : Mg A P F g) : sz g n ≤ sz f n := by
  rw [sz_cnt, sz_cnt]
  have hex : ∀ k, ∃ j, (g k).isSome = true → (D k → D j ∧ f j = g k) ∧ (¬ D k → j = k) := by
    intro k
    cases hk : g k with
    | none => exact ⟨0, fun h => by cases h⟩
    | some s =>
      by_cases hD : D k
      · obtain ⟨a, b, c⟩ := hg.1 k s hk
        obtain ⟨j, hj, hs⟩ := h2 k s hD b c
        exact ⟨j, fun _ => ⟨fun _ => ⟨hj, hs⟩, fun h => absurd hD h⟩⟩
      · exact ⟨k, fun _ => ⟨fun h => absurd h hD, fun _ => rfl⟩⟩
  refine cnt_inj (fun k => Classical.choose (hex k)) (fun k hk hp => ?_) (fun j k hj hk hpj hpk he => ?_)
  · have hc := Classical.choose_spec (hex k) hp
    generalize hφ : Classical.choose (hex k) = j at hc ⊢
    obtain ⟨s, hs⟩ := Option.isSome_iff_exists.mp hp
    by_cases hD : D k
    · obtain ⟨_, b⟩ := hc.1 hD
      rw [hs] at b
      exact ⟨hP _ (hf.1 j s b).1, by rw [b]; rfl⟩
    · have e := hc.2 hD
      subst e
      refine ⟨hk, ?_⟩
      cases hfk : f j with
      | none => exact absurd (h1 j (hg.1 j s hs).1 hfk) hD
      | some s => rfl
  · have cj := Classical.choose_spec (hex j) hpj
    have ck := Classical.choose_spec (hex k) hpk
    rw [he] at cj
    generalize Classical.choose (hex k) = i at cj ck
    obtain ⟨sj, hsj⟩ := Option.isSome_iff_exists.mp hpj
    obtain ⟨sk, hsk⟩ := Option.isSome_iff_exists.mp hpk
    by_cases hDj : D j
    · by_cases hDk : D k
      · have a := (cj.1 hDj).2
        have b := (ck.1 hDk).2
        rw [hsj] at a
        rw [hsk] at b
        have : sj = sk := Option.some.inj (a.symm.trans b)
        subst this
        exact hg.2 j k sj hsj hsk
      · have a := (cj.1 hDj).1
        rw [ck.2 hDk] at a
        exact absurd a hDk
    · by_cases hDk : D k
      · have a := (ck.1 hDk).1
        rw [cj.2 hDj] at a
        exact absurd a hDj
      · rw [← cj.2 hDj, ← ck.2 hDk]
theorem cert_max {A : Nat → Sl → Prop} {P : Nat → Prop} {F : Sl → Prop} {n : Nat} {f : Nat → Option Sl} {D : Nat → Prop} (hP : ∀ k, P k → k < n) (hf : Mg A P F f) (h1 : ∀ k, P k → f k = none → D k) (h2 : Shut A F f D) : IsMax A P F n (sz f n) := ⟨⟨f, hf, rfl⟩, fun _ hg => cert hP hf h1 h2 hg⟩
-- ===== THE PLAN, thing by thing =====
def Pge (n k : Nat) : Nat → Prop := fun j => k ≤ j ∧ j < n
def Fx (F : Sl → Prop) (s : Sl) : Sl → Prop := fun x => F x ∨ x = s
/-- THING k at s leaves as many taken -/
def Works (A : Nat → Sl → Prop) (n k : Nat) (F : Sl → Prop) (s : Sl) : Prop := ∃ m, IsMax A (Pge n (k + 1)) (Fx F s) n m ∧ IsMax A (Pge n k) F n (m + 1)
def Fof (pl : Nat → Option Sl) (k : Nat) : Sl → Prop := fun s => ∃ j, j < k ∧ pl j = some s
def PlanSpec (A : Nat → Sl → Prop) (n : Nat) (pl : Nat → Option Sl) : Prop := ∀ k, k < n → (∀ s, pl k = some s → A k s ∧ ¬ Fof pl k s ∧ Works A n k (Fof pl k) s ∧ ∀ s', A k s' → ¬ Fof pl k s' → s'.1 < s.1 → ¬ Works A n k (Fof pl k) s') ∧ (pl k = none → ∀ s, A k s → ¬ Fof pl k s → ¬ Works A n k (Fof pl k) s)
theorem Fof_congr {p q : Nat → Option Sl} {k : Nat} (h : ∀ j, j < k → p j = q j) : Fof p k = Fof q k := by
  funext s
  apply propext
  constructor
  · rintro ⟨j, hj, e⟩; exact ⟨j, hj, (h j hj) ▸ e⟩
  · rintro ⟨j, hj, e⟩; exact ⟨j, hj, (h j hj).symm ▸ e⟩
theorem PlanSpec.uniq {A : Nat → Sl → Prop} {n : Nat} {p q : Nat → Option Sl} (hA : ∀ k s s', k < n → A k s → A k s' → s.1 = s'.1 → s = s') (hp : PlanSpec A n p) (hq : PlanSpec A n q) : ∀ k, k < n → p k = q k := by
  intro k
  induction k using Nat.strongRecOn with
  | ind k ih =>
    intro hk
    have hF : Fof p k = Fof q k := Fof_congr (fun j hj => ih j hj (by omega))
    obtain ⟨p1, p2⟩ := hp k hk
    obtain ⟨q1, q2⟩ := hq k hk
    rw [hF] at p1 p2
    cases hpk : p k with
    | none =>
      cases hqk : q k with
      | none => rfl
      | some s =>
        obtain ⟨a, b, c, d⟩ := q1 s hqk
        exact absurd c (p2 hpk s a b)
    | some s =>
      obtain ⟨a, b, c, d⟩ := p1 s hpk
      cases hqk : q k with
      | none => exact absurd c (q2 hqk s a b)
      | some s' =>
        obtain ⟨a', b', c', d'⟩ := q1 s' hqk
        have h1 : ¬ s'.1 < s.1 := fun h => d s' a' b' h c'
        have h2 : ¬ s.1 < s'.1 := fun h => d' s a b h c
        rw [hA k s s' hk a a' (by omega)]
/-- f with THING k left out -/
def but (f : Nat → Option Sl) (k : Nat) : Nat → Option Sl := fun j => if j = k then none else f j
def put (f : Nat → Option Sl) (k : Nat) (s : Sl) : Nat → Option Sl := fun j => if j = k then some s else f j
theorem but_self {f : Nat → Option Sl} {k : Nat} : but f k k = none := if_pos rfl
theorem but_ne {f : Nat → Option Sl} {k j : Nat} (h : j ≠ k) : but f k j = f j := if_neg h
theorem put_self {f : Nat → Option Sl} {k : Nat} {s : Sl} : put f k s k = some s := if_pos rfl
theorem put_ne {f : Nat → Option Sl} {k j : Nat} {s : Sl} (h : j ≠ k) : put f k s j = f j := if_neg h
theorem sz_but {f : Nat → Option Sl} {k n : Nat} (hk : k < n) {s : Sl} (h : f k = some s) : sz f n = sz (but f k) n + 1 := by
  rw [sz_cnt, sz_cnt]
  exact cnt_add hk (by simp [but]) (by simp [h]) (fun j _ hj => by simp [but, hj])
theorem sz_put {f : Nat → Option Sl} {k n : Nat} (hk : k < n) {s : Sl} (h : f k = none) : sz (put f k s) n = sz f n + 1 := by
  rw [sz_cnt, sz_cnt]
  exact cnt_add hk (by simp [h]) (by simp [put]) (fun j _ hj => by simp [put, hj])
theorem sz_congr {f g : Nat → Option Sl} {n : Nat} (h : ∀ j, j < n → (f j).isSome = (g j).isSome) : sz f n = sz g n := by
  rw [sz_cnt, sz_cnt]
  exact cnt_congr h
theorem works_of {A : Nat → Sl → Prop} {n k : Nat} {F : Sl → Prop} {f : Nat → Option Sl} {s : Sl} (hk : k < n) (hf : Mg A (Pge n k) F f) (hmax : IsMax A (Pge n k) F n (sz f n)) (hs : f k = some s) : Works A n k F s ∧ IsMax A (Pge n (k + 1)) (Fx F s) n (sz (but f k) n) := by
  obtain ⟨_, hAs, hFs⟩ := hf.1 k s hs
  have e := sz_but hk hs
  have hM : IsMax A (Pge n (k + 1)) (Fx F s) n (sz (but f k) n) := by
    refine ⟨⟨but f k, ⟨fun j x hj => ?_, fun i j x hi hj => ?_⟩, rfl⟩, fun g hg => ?_⟩
    · by_cases hjk : j = k
      · subst hjk; rw [but_self] at hj; cases hj
      · rw [but_ne hjk] at hj
        obtain ⟨a, b, c⟩ := hf.1 j x hj
        refine ⟨⟨by have := a.1; omega, a.2⟩, b, fun h => ?_⟩
        rcases h with h | h
        · exact c h
        · subst h; exact hjk (hf.2 j k _ hj hs)
    · by_cases hik : i = k
      · subst hik; rw [but_self] at hi; cases hi
      · by_cases hjk : j = k
        · subst hjk; rw [but_self] at hj; cases hj
        · rw [but_ne hik] at hi
          rw [but_ne hjk] at hj
          exact hf.2 i j x hi hj
    · have hgk : g k = none := by
        cases h : g k with
        | none => rfl
        | some x => exact absurd (hg.1 k x h).1.1 (by omega)
      have hp : Mg A (Pge n k) F (put g k s) := by
        refine ⟨fun j x hj => ?_, fun i j x hi hj => ?_⟩
        · by_cases hjk : j = k
          · subst hjk; rw [put_self] at hj; cases hj; exact ⟨⟨Nat.le_refl _, hk⟩, hAs, hFs⟩
          · rw [put_ne hjk] at hj
            obtain ⟨a, b, c⟩ := hg.1 j x hj
            exact ⟨⟨by have := a.1; omega, a.2⟩, b, fun h => c (Or.inl h)⟩
        · by_cases hik : i = k
          · subst hik
            rw [put_self] at hi
            cases hi
            by_cases hjk : j = i
            · exact hjk.symm
            · rw [put_ne hjk] at hj
              exact absurd (Or.inr rfl) (hg.1 j s hj).2.2
          · rw [put_ne hik] at hi
            by_cases hjk : j = k
            · subst hjk
              rw [put_self] at hj
              cases hj
              exact absurd (Or.inr rfl) (hg.1 i s hi).2.2
            · rw [put_ne hjk] at hj
              exact hg.2 i j x hi hj
      have := hmax.2 _ hp
      rw [sz_put hk hgk] at this
      omega
  exact ⟨⟨_, hM, e ▸ hmax⟩, hM⟩
theorem Mg_up {A : Nat → Sl → Prop} {n k : Nat} {F : Sl → Prop} {g : Nat → Option Sl} (hg : Mg A (Pge n (k + 1)) F g) : Mg A (Pge n k) F g := ⟨fun j x hj => by
  obtain ⟨a, b, c⟩ := hg.1 j x hj
  exact ⟨⟨by have := a.1; omega, a.2⟩, b, c⟩, hg.2⟩
theorem Mg_down {A : Nat → Sl → Prop} {n k : Nat} {F : Sl → Prop} {g : Nat → Option Sl} (hg : Mg A (Pge n k) F g) (h : g k = none) : Mg A (Pge n (k + 1)) F g := ⟨fun j x hj => by
  obtain ⟨a, b, c⟩ := hg.1 j x hj
  have : j ≠ k := fun e => by subst e; rw [h] at hj; cases hj
  exact ⟨⟨by have := a.1; omega, a.2⟩, b, c⟩, hg.2⟩
theorem max_skip {A : Nat → Sl → Prop} {n k m : Nat} {F : Sl → Prop} (hk : k < n) (hmax : IsMax A (Pge n k) F n m) (hno : ∀ s, A k s → ¬ F s → ¬ Works A n k F s) : IsMax A (Pge n (k + 1)) F n m := by
  obtain ⟨⟨g, hg, rfl⟩, hu⟩ := hmax
  cases hgk : g k with
  | some s =>
    obtain ⟨_, b, c⟩ := hg.1 k s hgk
    exact absurd (works_of hk hg ⟨⟨g, hg, rfl⟩, hu⟩ hgk).1 (hno s b c)
  | none => exact ⟨⟨g, Mg_down hg hgk, rfl⟩, fun g' hg' => hu g' (Mg_up hg')⟩
theorem max_none {A : Nat → Sl → Prop} {n k : Nat} {F : Sl → Prop} {f : Nat → Option Sl} (hf : Mg A (Pge n k) F f) (hmax : IsMax A (Pge n k) F n (sz f n)) (hs : f k = none) : IsMax A (Pge n (k + 1)) F n (sz f n) := ⟨⟨f, Mg_down hf hs, rfl⟩, fun g' hg' => hmax.2 g' (Mg_up hg')⟩
/-- a shut set without THING k: each PLAN that takes most has k -/
theorem need_of {A : Nat → Sl → Prop} {n k : Nat} {F : Sl → Prop} {f : Nat → Option Sl} {D : Nat → Prop} (hk : k < n) (hf : Mg A (fun j => j < n) F f) (h1 : ∀ j, j < n → f j = none → D j) (h2 : Shut A F f D) (hD : ¬ D k) : IsMax A (fun j => j < n ∧ j ≠ k) F n (sz f n - 1) ∧ 0 < sz f n := by
  cases hfk : f k with
  | none => exact absurd (h1 k hk hfk) hD
  | some s =>
    have e := sz_but hk hfk
    have hb : Mg A (fun j => j < n ∧ j ≠ k) F (but f k) := by
      refine ⟨fun j x hj => ?_, fun i j x hi hj => ?_⟩
      · by_cases hjk : j = k
        · subst hjk; rw [but_self] at hj; cases hj
        · rw [but_ne hjk] at hj
          obtain ⟨a, b, c⟩ := hf.1 j x hj
          exact ⟨⟨a, hjk⟩, b, c⟩
      · by_cases hik : i = k
        · subst hik; rw [but_self] at hi; cases hi
        · by_cases hjk : j = k
          · subst hjk; rw [but_self] at hj; cases hj
          · rw [but_ne hik] at hi
            rw [but_ne hjk] at hj
            exact hf.2 i j x hi hj
    have hM := cert_max (n := n) (D := D) (fun j hj => hj.1) hb (fun j hj hn => h1 j hj.1 (by rw [but_ne hj.2] at hn; exact hn)) (fun j x hj ha hF => by
      obtain ⟨i, hi, hx⟩ := h2 j x hj ha hF
      have : i ≠ k := fun e => hD (e ▸ hi)
      exact ⟨i, hi, by rw [but_ne this]; exact hx⟩)
    rw [e]
    exact ⟨hM, by omega⟩
