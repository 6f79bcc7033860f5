/-! means: sums -/
def mxp (pl : Nat → Nat) (b y : Nat) : Nat → Nat
  | 0 => 0
  | e + 1 => if b / 2 ^ e % 2 = 0 then mxp pl b y e else if mxp pl b y e < plg pl e y then plg pl e y else mxp pl b y e
def kgt (pl f g : Nat → Nat) (w b d r : Nat) : Nat := kpg pl w b (d + 2 - r) * f d * g r
/-- all weights of a pair being kept -/
def kal (pl f g : Nat → Nat) (w b : Nat) : Nat := smN (fun d => smN (kgt pl f g w b d) 3) 5
def ftt (f g : Nat → Nat) (y d r : Nat) : Nat := if d + 2 - r = y then f d * g r else 0
def bgp (f g : Nat → Nat) (y : Nat) : Nat := smN (fun d => smN (ftt f g y d) 3) 5
section
variable {pl f g : Nat → Nat} {w b e y o d r n : Nat}
theorem smN_add (f g : Nat → Nat) : ∀ n, smN (fun i => f i + g i) n = smN f n + smN g n
  | 0 => rfl
  | n + 1 => by
    show smN (fun i => f i + g i) n + (f n + g n) = smN f n + f n + (smN g n + g n)
    rw [smN_add f g n]
    omega
theorem smN_zero : ∀ n, smN (fun _ => 0) n = 0
  | 0 => rfl
  | n + 1 => by
    show smN (fun _ => 0) n + 0 = 0
    rw [smN_zero n]
theorem smN_swap (F : Nat → Nat → Nat) (n : Nat) : ∀ m, smN (fun e => smN (F e) n) m = smN (fun d => smN (fun e => F e d) m) n
  | 0 => (smN_zero n).symm
  | m + 1 => by
    show smN (fun e => smN (F e) n) m + smN (F m) n = smN (fun d => smN (fun e => F e d) m + F m d) n
    rw [smN_swap F n m, smN_add]
theorem smN_mul (f : Nat → Nat) (c : Nat) : ∀ n, smN f n * c = smN (fun i => f i * c) n
  | 0 => Nat.zero_mul c
  | n + 1 => by
    show (smN f n + f n) * c = smN (fun i => f i * c) n + f n * c
    rw [Nat.add_mul, smN_mul f c n]
theorem smN_mono {f g : Nat → Nat} : ∀ n, (∀ i, i < n → f i ≤ g i) → smN f n ≤ smN g n
  | 0, _ => Nat.le_refl _
  | n + 1, h => by
    show smN f n + f n ≤ smN g n + g n
    have h1 := smN_mono n (fun i hi => h i (by omega))
    have h2 := h n (by omega)
    omega
/-- one place among n -/
theorem smN_at (a x : Nat) : ∀ n, smN (fun i => if i = a then x else 0) n = if a < n then x else 0
  | 0 => by rw [if_neg (by omega)]; rfl
  | n + 1 => by
    show smN (fun i => if i = a then x else 0) n + (if n = a then x else 0) = _
    rw [smN_at a x n]
    by_cases q : n = a
    · rw [if_pos q, if_neg (by omega), if_pos (by omega), Nat.zero_add]
    · rw [if_neg q]
      by_cases q2 : a < n
      · rw [if_pos q2, if_pos (by omega), Nat.add_zero]
      · rw [if_neg q2, if_neg (by omega)]
theorem mxp_bpr : ∀ e, e ≤ 5 → mxp pl b y e = if bpr pl b y e = 5 then 0 else plg pl (bpr pl b y e) y := by
  intro e
  induction e with
  | zero => intro _; rfl
  | succ e ih =>
    intro he
    have ih := ih (by omega)
    show (if b / 2 ^ e % 2 = 0 then mxp pl b y e else if mxp pl b y e < plg pl e y then plg pl e y else mxp pl b y e) = _
    by_cases q : b / 2 ^ e % 2 = 0
    · have e1 : bpr pl b y (e + 1) = bpr pl b y e := by show (if _ then _ else _) = _; rw [if_pos q]
      rw [if_pos q, e1, ih]
    · rw [if_neg q, ih]
      by_cases q5 : bpr pl b y e = 5
      · have e1 : bpr pl b y (e + 1) = e := by show (if _ then _ else _) = _; rw [if_neg q, if_pos q5]
        rw [e1, if_pos q5, if_neg (show ¬ e = 5 by omega)]
        split <;> omega
      · rw [if_neg q5]
        by_cases q6 : plg pl e y ≤ plg pl (bpr pl b y e) y
        · have e1 : bpr pl b y (e + 1) = bpr pl b y e := by show (if _ then _ else _) = _; rw [if_neg q, if_neg q5, if_pos q6]
          rw [e1, if_neg q5, if_neg (by omega)]
        · have e1 : bpr pl b y (e + 1) = e := by show (if _ then _ else _) = _; rw [if_neg q, if_neg q5, if_neg q6]
          rw [e1, if_neg (show ¬ e = 5 by omega), if_pos (by omega)]
theorem mxp_kpg (h1 : 1 ≤ b) (hb : b < 32) : mxp pl b y 5 * (100 - w) = kpg pl w b y := by
  have := bpr_in (pl := pl) (y := y) h1 hb
  rw [mxp_bpr 5 (by omega), if_neg (by omega)]
  rfl
theorem mxp_le (hp : ∀ d, d < 5 → pl d ≤ 100) : ∀ e, mxp pl b y e ≤ 100 := by
  intro e
  induction e with
  | zero => exact Nat.zero_le _
  | succ e ih =>
    show (if b / 2 ^ e % 2 = 0 then mxp pl b y e else if mxp pl b y e < plg pl e y then plg pl e y else mxp pl b y e) ≤ _
    have := plg_le (e := e) (y := y) hp
    split
    · exact ih
    · split
      · exact this
      · exact ih
/-- the class's sum over gaps is the sum over feet and runs -/
theorem kal_gap (h1 : 1 ≤ b) (hb : b < 32) : smN (fun y => bgp f g y * mxp pl b y 5) 7 * (100 - w) = kal pl f g w b := by
  have e1 : ∀ y, y < 7 → bgp f g y * mxp pl b y 5 = smN (fun d => smN (fun r => ftt f g y d r * mxp pl b y 5) 3) 5 := fun y _ => by
    unfold bgp
    rw [smN_mul]
    exact smN_congr 5 (fun d _ => smN_mul _ _ 3)
  rw [smN_congr 7 e1, smN_swap, smN_mul]
  refine smN_congr 5 (fun d hd => ?_)
  rw [smN_swap, smN_mul]
  refine smN_congr 3 (fun r hr => ?_)
  have e2 : ∀ y, y < 7 → ftt f g y d r * mxp pl b y 5 = if y = d + 2 - r then f d * g r * mxp pl b (d + 2 - r) 5 else 0 := fun y _ => by
    unfold ftt
    by_cases q : d + 2 - r = y
    · rw [if_pos q, if_pos q.symm, q]
    · rw [if_neg q, if_neg (fun z => q z.symm), Nat.zero_mul]
  rw [smN_congr 7 e2, smN_at, if_pos (by omega)]
  unfold kgt
  rw [Nat.mul_assoc, mxp_kpg h1 hb, Nat.mul_comm, Nat.mul_assoc]
/-- the reference's sum over the pairs of the box -/
theorem kal_sum (h1 : 1 ≤ b) (hb : b < 32) : smN (fun e => if b / 2 ^ e % 2 = 1 then wall pl f g w b e else 0) 5 = kal pl f g w b := by
  have e1 : ∀ e, e < 5 → (if b / 2 ^ e % 2 = 1 then wall pl f g w b e else 0) = smN (fun d => smN (fun r => if b / 2 ^ e % 2 = 1 then wgt pl f g w b e d r else 0) 3) 5 := fun e _ => by
    by_cases q : b / 2 ^ e % 2 = 1
    · rw [if_pos q]
      exact smN_congr 5 (fun d _ => smN_congr 3 (fun r _ => by rw [if_pos q]))
    · rw [if_neg q]
      have : ∀ d, d < 5 → smN (fun r => if b / 2 ^ e % 2 = 1 then wgt pl f g w b e d r else 0) 3 = 0 := fun d _ => by
        rw [smN_congr 3 (g := fun _ => 0) (fun r _ => by rw [if_neg q])]
        exact smN_zero 3
      rw [smN_congr 5 (g := fun _ => 0) this]
      exact (smN_zero 5).symm
  rw [smN_congr 5 e1, smN_swap]
  refine smN_congr 5 (fun d _ => ?_)
  rw [smN_swap]
  refine smN_congr 3 (fun r _ => ?_)
  have l := bpr_in (pl := pl) (y := d + 2 - r) h1 hb
  have lb := bpr_bit (pl := pl) (b := b) (y := d + 2 - r) 5 (by omega) (by omega)
  have e2 : ∀ e, e < 5 → (if b / 2 ^ e % 2 = 1 then wgt pl f g w b e d r else 0) = if e = bpr pl b (d + 2 - r) 5 then kgt pl f g w b d r else 0 := fun e he => by
    by_cases q : e = bpr pl b (d + 2 - r) 5
    · rw [if_pos q, if_pos (by rw [q]; exact lb)]
      unfold wgt kgt lik
      rw [if_neg (by omega), if_pos q]
    · rw [if_neg q]
      have : wgt pl f g w b e d r = 0 := by
        unfold wgt lik
        rw [if_neg (by omega), if_neg q, Nat.zero_mul, Nat.zero_mul]
      rw [this]
      split <;> rfl
  rw [smN_congr 5 e2, smN_at, if_pos l]
theorem kal_none (hp : ∀ d, d < 5 → pl d ≤ 100) (hf : f 0 + f 1 + f 2 + f 3 + f 4 = 10000) (hg : g 0 + g 1 + g 2 = 10000) : wall pl f g w b 5 + kal pl f g w b = 1000000000000 := by
  have e1 : wall pl f g w b 5 + kal pl f g w b = smN (fun d => smN (fun r => 10000 * f d * g r) 3) 5 := by
    unfold wall kal wrow
    rw [← smN_add]
    refine smN_congr 5 (fun d _ => ?_)
    rw [← smN_add]
    refine smN_congr 3 (fun r _ => ?_)
    have lk := kpg_le (w := w) (b := b) (y := d + 2 - r) hp
    unfold wgt kgt lik
    rw [if_pos rfl, ← Nat.add_mul, ← Nat.add_mul, Nat.sub_add_cancel lk]
  rw [e1]
  have e2 : ∀ d, d < 5 → smN (fun r => 10000 * f d * g r) 3 = 100000000 * f d := fun d _ => by
    show 0 + 10000 * f d * g 0 + 10000 * f d * g 1 + 10000 * f d * g 2 = _
    rw [Nat.zero_add, ← Nat.mul_add, ← Nat.mul_add, hg]
    omega
  rw [smN_congr 5 e2]
  show 0 + 100000000 * f 0 + 100000000 * f 1 + 100000000 * f 2 + 100000000 * f 3 + 100000000 * f 4 = _
  omega
end
