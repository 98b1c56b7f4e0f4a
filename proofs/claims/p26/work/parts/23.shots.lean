/-! shots that are kept: number, time, amount, burr, kind, second, portions; the latest first -/
abbrev Sh : Type := Int32 × Nat × Int32 × Int32 × Int32 × Int32 × Int32
def sk0 (K : List Sh) (k : Nat) : Sh := K.getD k (0, 0, 0, 0, 0, 0, 0)
theorem sk0_0 (x : Sh) (K : List Sh) : sk0 (x :: K) 0 = x := rfl
theorem sk0_s (x : Sh) (K : List Sh) (k : Nat) : sk0 (x :: K) (k + 1) = sk0 K k := rfl
theorem sk0_t (K : List Sh) {n k : Nat} (h : k < n) : sk0 (K.take n) k = sk0 K k := by
  unfold sk0
  rw [List.getD_eq_getElem?_getD, List.getD_eq_getElem?_getD, List.getElem?_take, if_pos h]
def shF (f : Nat → Int32) (b : Nat) (x : Sh) : Prop := f b = x.1 ∧ f (b + 1) = nI x.2.1 ∧ f (b + 2) = x.2.2.1 ∧ f (b + 3) = x.2.2.2.1 ∧ f (b + 4) = x.2.2.2.2.1 ∧ f (b + 6) = x.2.2.2.2.2.1 ∧ f (b + 7) = x.2.2.2.2.2.2
def shR (K : List Sh) (f : Nat → Int32) (sk : Int32) : Prop := sk = nI K.length ∧ K.length ≤ 12 ∧ (∀ k : Nat, k < K.length → (sk0 K k).2.1 ≤ 30000) ∧ ∀ k : Nat, k < K.length → shF f (8 * k) (sk0 K k)
/-- how far from the target -/
def aw (t g : Nat) : Nat := if g ≤ t then t - g else g - t
theorem p_absI {a b : Nat} (ha : a < 2 ^ 30) (hb : b < 2 ^ 30) : (if 0 ≤ nI a - nI b then nI a - nI b else 0 - (nI a - nI b)) = nI (aw a b) := by
  unfold aw
  by_cases h : b ≤ a
  · rw [pk_sub h, if_pos (nI_pos' (by omega)), if_pos h]
  · have hn := pk_sneg (a := a) (b := b) hb (by omega)
    rw [if_neg (fun q => ?_), if_neg h]
    · have e : (0 : Int32) - (nI a - nI b) = nI b - nI a := by rw [Int32.zero_sub, Int32.neg_sub]
      rw [e, pk_sub (by omega)]
    · rw [Int32.lt_iff_toInt_lt] at hn
      rw [Int32.le_iff_toInt_le] at q
      omega
theorem p_away {K : List Sh} {f : Nat → Int32} {sk : Int32} {g k : Nat} (h : shR K f sk) (hg : g ≤ 600) (hk : k < K.length) : f_X6_awayFrom (nI g) (nI k) f = some (nI (aw (sk0 K k).2.1 g)) := by
  obtain ⟨rfl, h12, ht, hf⟩ := h
  have h1 := (hf k hk).2.1
  have h2 := ht k hk
  have e : nI k * 8 + 1 = nI (8 * k + 1) := by
    rw [fa_lit 8, fa_lit 1, pk_mul, nI_add, Nat.mul_comm]
  have hgi := nI_in (c := 8 * k + 1) (N := 96) (by omega) (by omega)
  rw [f_X6_awayFrom, e, gd_t hgi, nI_clamp (by omega), h1, p_absI (by omega) (by omega)]
  rfl
/-- how many of the first n are ahead of the one at i -/
def ahead (K : List Sh) (g i : Nat) : Nat → Nat
  | 0 => 0
  | n + 1 => ahead K g i n + (if aw (sk0 K n).2.1 g < aw (sk0 K i).2.1 g ∨ (aw (sk0 K n).2.1 g = aw (sk0 K i).2.1 g ∧ n < i) then 1 else 0)
theorem ahead_le (K : List Sh) (g i : Nat) : ∀ n, ahead K g i n ≤ n
  | 0 => Nat.le_refl 0
  | n + 1 => by
    have := ahead_le K g i n
    unfold ahead
    split <;> omega
theorem p_place_L {K : List Sh} {f : Nat → Int32} {sk : Int32} {g i : Nat} (h : shR K f sk) (hg : g ≤ 600) (hi : i < K.length) : ∀ (m n fuel : Nat), n + m = K.length → m < fuel → f_X6_placeOf_L13 f sk (nI i) (nI g) (nI (aw (sk0 K i).2.1 g)) fuel (nI (ahead K g i n)) (nI n) = some (nI (ahead K g i K.length)) := by
  have h12 := h.2.1
  have hsk := h.1
  have hai : aw (sk0 K i).2.1 g < 2 ^ 30 := by
    have := h.2.2.1 i hi
    unfold aw; split <;> omega
  intro m
  induction m with
  | zero =>
    intro n fuel hn hf
    obtain ⟨fu, rfl⟩ : ∃ fu, fuel = fu + 1 := ⟨fuel - 1, by omega⟩
    rw [f_X6_placeOf_L13, if_pos (by rw [hsk]; exact nI_le (by omega) (by omega)), show n = K.length by omega]
  | succ m ih =>
    intro n fuel hn hf
    obtain ⟨fu, rfl⟩ : ∃ fu, fuel = fu + 1 := ⟨fuel - 1, by omega⟩
    have hal := ahead_le K g i n
    have han : aw (sk0 K n).2.1 g < 2 ^ 30 := by
      have := h.2.2.1 n (by omega)
      unfold aw; split <;> omega
    have ih' := ih (n + 1) fu (by omega) (by omega)
    rw [f_X6_placeOf_L13, if_neg (by rw [hsk]; exact nI_ge (by omega) (by omega)), p_away h hg (by omega)]
    simp only [Option.bind_some, f_X6_placeOf_J49, f_X6_placeOf_J52, lt_v, fa_L, nI_add]
    rw [show ahead K g i (n + 1) = ahead K g i n + (if aw (sk0 K n).2.1 g < aw (sk0 K i).2.1 g ∨ (aw (sk0 K n).2.1 g = aw (sk0 K i).2.1 g ∧ n < i) then 1 else 0) from rfl] at ih'
    by_cases q1 : aw (sk0 K n).2.1 g < aw (sk0 K i).2.1 g
    · rw [if_pos (nI_lt q1 (by omega))]
      rw [if_pos (Or.inl q1)] at ih'
      exact ih'
    · rw [if_neg (nI_nlt (by omega) (by omega))]
      by_cases q2 : aw (sk0 K n).2.1 g = aw (sk0 K i).2.1 g
      · rw [if_pos (congrArg nI q2)]
        by_cases q3 : n < i
        · rw [if_neg (nI_ge q3 (by omega))]
          rw [if_pos (Or.inr ⟨q2, q3⟩)] at ih'
          exact ih'
        · rw [if_pos (nI_le (by omega) (by omega))]
          rw [if_neg (by omega), Nat.add_zero] at ih'
          exact ih'
      · rw [if_neg (fun z => q2 ((nI_eq (by omega) (by omega)).mp z))]
        rw [if_neg (by omega), Nat.add_zero] at ih'
        exact ih'
theorem p_place {K : List Sh} {f : Nat → Int32} {sk : Int32} {g i : Nat} (h : shR K f sk) (hg : g ≤ 600) (hi : i < K.length) : f_X6_placeOf (nI i) (nI g) f sk = some (nI (ahead K g i K.length)) := by
  have h12 := h.2.1
  have := p_place_L h hg hi K.length 0 FU (by omega) (by show _ < 20000; omega)
  rw [f_X6_placeOf, p_away h hg hi]
  simp only [Option.bind_some]
  rw [← nI_0]
  exact this
/-- the number of the first one from i on that stands at this place -/
def bestAt (K : List Sh) (g : Nat) (x : Int32) : Nat → Nat → Int32
  | 0, _ => -1000004
  | m + 1, i => if nI (ahead K g i K.length) = x then (sk0 K i).1 else bestAt K g x m (i + 1)
theorem p_number_L {K : List Sh} {f : Nat → Int32} {sk x : Int32} {g : Nat} (h : shR K f sk) (hg : g ≤ 600) : ∀ (m i fuel : Nat), i + m = K.length → m < fuel → f_X6_numberAtPlace_L2 f sk x (nI g) fuel (nI i) = some (bestAt K g x m i) := by
  have h12 := h.2.1
  have hsk := h.1
  intro m
  induction m with
  | zero =>
    intro i fuel hi hf
    obtain ⟨fu, rfl⟩ : ∃ fu, fuel = fu + 1 := ⟨fuel - 1, by omega⟩
    rw [f_X6_numberAtPlace_L2, if_pos (by rw [hsk]; exact nI_le (by omega) (by omega))]
    rfl
  | succ m ih =>
    intro i fuel hi hf
    obtain ⟨fu, rfl⟩ : ∃ fu, fuel = fu + 1 := ⟨fuel - 1, by omega⟩
    have ih' := ih (i + 1) fu (by omega) (by omega)
    have e : nI i * 8 + 0 = nI (8 * i) := by
      rw [fa_lit 8, fa_lit 0, pk_mul, nI_add, Nat.mul_comm, Nat.add_zero]
    have hgi := nI_in (c := 8 * i) (N := 96) (by omega) (by omega)
    rw [f_X6_numberAtPlace_L2, if_neg (by rw [hsk]; exact nI_ge (by omega) (by omega)), p_place h hg (by omega)]
    simp only [Option.bind_some]
    rw [e, gd_t hgi, nI_clamp (by omega), (h.2.2.2 i (by omega)).1, bestAt]
    by_cases q : nI (ahead K g i K.length) = x
    · rw [if_pos q, if_pos q]
    · rw [if_neg q, if_neg q, lt_v, fa_L, nI_add]
      exact ih'
theorem p_number {K : List Sh} {f : Nat → Int32} {sk : Int32} {g : Nat} (x : Int32) (h : shR K f sk) (hg : g ≤ 600) : f_X6_numberAtPlace x (nI g) f sk = some (bestAt K g x K.length 0) := by
  have h12 := h.2.1
  have := p_number_L (x := x) h hg K.length 0 FU (by omega) (by show _ < 20000; omega)
  rw [f_X6_numberAtPlace, ← nI_0]
  exact this
/-- what is told of a shot: by its place in the answers of shotOf -/
def shOf (x : Sh) (g w : Nat) : Int32 := match w with
  | 0 => x.1
  | 1 => nI x.2.1
  | 2 => x.2.2.1
  | 3 => x.2.2.2.1
  | 4 => x.2.2.2.2.1
  | 5 => nI (aw x.2.1 g)
  | 6 => x.2.2.2.2.2.1
  | _ => x.2.2.2.2.2.2
theorem p_tellShot {K : List Sh} {f : Nat → Int32} {sk : Int32} {g i w : Nat} (h : shR K f sk) (hg : g ≤ 600) (hi : i < 2 ^ 31) (hw : w < 8) : f_X6_tell (nI i) (nI w) (nI g) f sk = some (if i < K.length then shOf (sk0 K i) g w else -1000004) := by
  have h12 := h.2.1
  have hsk := h.1
  rw [f_X6_tell, if_neg (nI_pos hi)]
  by_cases q : i < K.length
  · have hf := h.2.2.2 i q
    have e : nI i * 8 + nI w = nI (8 * i + w) := by
      rw [fa_lit 8, pk_mul, nI_add, Nat.mul_comm]
    have hgi := nI_in (c := 8 * i + w) (N := 96) (by omega) (by omega)
    rw [if_neg (by rw [hsk]; exact nI_ge q (by omega)), if_neg (nI_pos (by omega)), fa_lit 8, if_pos (nI_lt hw (by decide)), if_pos q, fa_lit 5]
    rw [← fa_lit 8, e, gd_t hgi, nI_clamp (by omega), p_away h hg q]
    obtain ⟨f0, f1, f2, f3, f4, f6, f7⟩ := hf
    have hw' : w = 0 ∨ w = 1 ∨ w = 2 ∨ w = 3 ∨ w = 4 ∨ w = 5 ∨ w = 6 ∨ w = 7 := by omega
    rcases hw' with rfl | rfl | rfl | rfl | rfl | rfl | rfl | rfl
    · rw [if_neg (by decide)]; exact congrArg some f0
    · rw [if_neg (by decide)]; exact congrArg some f1
    · rw [if_neg (by decide)]; exact congrArg some f2
    · rw [if_neg (by decide)]; exact congrArg some f3
    · rw [if_neg (by decide)]; exact congrArg some f4
    · rw [if_pos rfl]; rfl
    · rw [if_neg (by decide)]; exact congrArg some f6
    · rw [if_neg (by decide)]; exact congrArg some f7
  · rw [if_pos (by rw [hsk]; exact nI_le (by omega) hi), if_neg q]
theorem p_addShot {K : List Sh} {f : Nat → Int32} {sk : Int32} {t : Nat} (h : shR K f sk) (ht : t ≤ 30000) (x2 x3 x4 x5 x6 sm : Int32) : ∃ R, f_X6_add (nI t) x2 x3 x4 x5 x6 f sk sm = some R ∧ shR (((sm, t, x2, x3, x4, x5, x6) :: K).take 12) R.1 R.2.1 ∧ R.2.2 = sm + 1 := by
  obtain ⟨rfl, h12, htt, hf⟩ := h
  have hg : ¬ (0 : Int32) < 0 ∧ ¬ (8 : Int32) < 0 ∧ ¬ ((96 : Int32) - 8) < 0 ∧ (0 : Int32).toNatClampNeg + ((96 : Int32) - 8).toNatClampNeg ≤ 96 ∧ (8 : Int32).toNatClampNeg + ((96 : Int32) - 8).toNatClampNeg ≤ 96 := by decide
  have hlen : (((sm, t, x2, x3, x4, x5, x6) :: K).take 12).length = min 12 (K.length + 1) := by rw [List.length_take]; rfl
  refine ⟨(upd (upd (upd (upd (upd (upd (upd (va_cpy f f 0 8 88) 0 sm) 1 (nI t)) 2 x2) 3 x3) 4 x4) 6 x5) 7 x6, nI (min 12 (K.length + 1)), sm + 1), ?_, ⟨?_, ?_, ?_, ?_⟩, rfl⟩
  · rw [f_X6_add, gd_t hg]
    have e : (if nI K.length + (1 : Int32) < 12 then nI K.length + (1 : Int32) else 12) = nI (min 12 (K.length + 1)) := by
      rw [fa_lit 1, fa_lit 12, nI_add]
      by_cases q : K.length + 1 < 12
      · rw [if_pos (nI_lt q (by decide))]; exact nI_inj (by omega)
      · rw [if_neg (nI_nlt (by omega) (by omega))]; exact nI_inj (by omega)
    rw [e]
    rfl
  · rw [hlen]
  · rw [hlen]; omega
  · intro k hk
    rw [hlen] at hk
    rw [sk0_t _ (by omega)]
    cases k with
    | zero => exact ht
    | succ k => rw [sk0_s]; exact htt k (by omega)
  · intro k hk
    rw [hlen] at hk
    rw [sk0_t _ (by omega)]
    cases k with
    | zero => exact ⟨rfl, rfl, rfl, rfl, rfl, rfl, rfl⟩
    | succ k =>
      rw [sk0_s]
      have hk2 : k < K.length := by omega
      have e : ∀ j, j < 8 → upd (upd (upd (upd (upd (upd (upd (va_cpy f f 0 8 88) 0 sm) 1 (nI t)) 2 x2) 3 x3) 4 x4) 6 x5) 7 x6 (8 * (k + 1) + j) = f (8 * k + j) := fun j hj => by
        rw [pk_un (by omega), pk_un (by omega), pk_un (by omega), pk_un (by omega), pk_un (by omega), pk_un (by omega), pk_un (by omega), pk_cpy_in (by omega) (by omega)]
        congr 1
        omega
      obtain ⟨f0, f1, f2, f3, f4, f6, f7⟩ := hf k hk2
      exact ⟨(e 0 (by decide)).trans f0, (e 1 (by decide)).trans f1, (e 2 (by decide)).trans f2, (e 3 (by decide)).trans f3, (e 4 (by decide)).trans f4, (e 6 (by decide)).trans f6, (e 7 (by decide)).trans f7⟩
theorem p_copyShots {K : List Sh} {f f2 : Nat → Int32} {sk2 : Int32} (h : shR K f2 sk2) (sk sm sm2 : Int32) : ∃ R, f_X6_copyFrom f sk sm f2 sk2 sm2 = some R ∧ shR K R.1 R.2.1 ∧ R.2.2 = sm2 := by
  have hg : ¬ (0 : Int32) < 0 ∧ ¬ (0 : Int32) < 0 ∧ ¬ (96 : Int32) < 0 ∧ (0 : Int32).toNatClampNeg + (96 : Int32).toNatClampNeg ≤ 96 ∧ (0 : Int32).toNatClampNeg + (96 : Int32).toNatClampNeg ≤ 96 := by decide
  refine ⟨(va_cpy f2 f 0 0 96, sk2, sm2), ?_, ⟨h.1, h.2.1, h.2.2.1, ?_⟩, rfl⟩
  · rw [f_X6_copyFrom, gd_t hg]
    rfl
  · intro k hk
    have h12 := h.2.1
    have e : ∀ j, j < 8 → va_cpy f2 f 0 0 96 (8 * k + j) = f2 (8 * k + j) := fun j hj => by
      rw [pk_cpy_in (by omega) (by omega)]
      congr 1
      omega
    obtain ⟨f0, f1, f2, f3, f4, f6, f7⟩ := h.2.2.2 k hk
    exact ⟨(e 0 (by decide)).trans f0, (e 1 (by decide)).trans f1, (e 2 (by decide)).trans f2, (e 3 (by decide)).trans f3, (e 4 (by decide)).trans f4, (e 6 (by decide)).trans f6, (e 7 (by decide)).trans f7⟩
