set_option linter.all false
/-! CLASS AND REFERENCE COUNT ALIKE -/
section
variable {B : ab_B}
theorem cs_sf_split {f : Int → Int} : ∀ (a b : Nat) (i : Int), cs_sf f i (a + b) = cs_sf f i a + cs_sf f (i + a) b
  | 0, b, i => by simp [cs_sf]
  | a + 1, b, i => by
    rw [show a + 1 + b = (a + b) + 1 from by omega]
    show f i + cs_sf f (i + 1) (a + b) = f i + cs_sf f (i + 1) a + cs_sf f (i + ((a + 1 : Nat) : Int)) b
    rw [cs_sf_split a b, show i + ((a + 1 : Nat) : Int) = i + 1 + (a : Int) from by omega]
    omega
theorem cs_sf_rows {f : Int → Int} (m : Nat) : ∀ (k : Nat) (i : Int), cs_sf f (i * m) (k * m) = cs_sf (fun s => cs_sf f (s * m) m) i k
  | 0, i => by rw [Nat.zero_mul]; rfl
  | k + 1, i => by
    rw [Nat.succ_mul, Nat.add_comm, cs_sf_split m (k * m)]
    have e : i * (m : Int) + (m : Int) = (i + 1) * (m : Int) := by rw [Int.add_mul, Int.one_mul]
    rw [e, cs_sf_rows m k (i + 1)]
    rfl
/-- all but one, by places -/
theorem cs_sf_but {G : Int → Int} {D t : Int} (D3 : 3 ≤ D) (D5 : D ≤ 5) (t1 : 0 ≤ t) (t2 : t < D) : cs_sf (fun p => G (if p < t then p else p + 1)) 0 (D - 1).toNat = cs_sf (fun d => if d = t then 0 else G d) 0 D.toNat := by
  have hD : D = 3 ∨ D = 4 ∨ D = 5 := by omega
  have ht : t = 0 ∨ t = 1 ∨ t = 2 ∨ t = 3 ∨ t = 4 := by omega
  rcases hD with q | q | q <;> subst q <;> rcases ht with z | z | z | z | z <;> subst z <;> first
    | (exfalso; omega)
    | (simp [cs_sf]; try omega)
theorem cs_lost_m {g : ab_H} (hR : cs_R g) : mlost g = cs_lost g (-1) (-1) := by
  have hDS := hR.2.1
  by_cases c0 : ab_gi g 1 0 = 0
  · have cS : ab_gi g 1 1 = 0 := by omega
    have cB : cs_B g = 0 := by unfold cs_B; rw [if_neg (by omega)]
    unfold mlost cs_lost
    rw [cB, cS]
    rfl
  · have D3 : 3 ≤ ab_gi g 1 0 := by omega
    have eB : (cs_B g).toNat = (ab_gi g 1 1).toNat * (ab_gi g 1 0 - 1).toNat := by
      unfold cs_B
      rw [if_pos (by omega)]
      have : ab_gi g 1 0 = 3 ∨ ab_gi g 1 0 = 4 ∨ ab_gi g 1 0 = 5 := by omega
      have z2 : ((3 : Int) - 1).toNat = 2 := rfl
      have z3 : ((4 : Int) - 1).toNat = 3 := rfl
      have z4 : ((5 : Int) - 1).toNat = 4 := rfl
      rcases this with q | q | q
      · rw [q, z2]; omega
      · rw [q, z3]; omega
      · rw [q, z4]; omega
    have em : (((ab_gi g 1 0 - 1).toNat : Nat) : Int) = ab_gi g 1 0 - 1 := by omega
    unfold mlost cs_lost
    rw [eB]
    have := cs_sf_rows (f := fun k => if cs_sh g (cs_dk (ab_gi g 1 0) k) (k / (ab_gi g 1 0 - 1)) = -1 then 1 else 0) (ab_gi g 1 0 - 1).toNat (ab_gi g 1 1).toNat 0
    rw [Int.zero_mul] at this
    rw [this]
    refine cs_sf_congr _ _ (fun s s1 s2 => ?_)
    rw [em]
    have t1 : 0 ≤ s % ab_gi g 1 0 := Int.emod_nonneg _ (by omega)
    have t2 : s % ab_gi g 1 0 < ab_gi g 1 0 := Int.emod_lt_of_pos _ (by omega)
    have sh : ∀ (f : Int → Int) (k : Nat) (i j : Int), cs_sf f (i + j) k = cs_sf (fun p => f (i + p)) j k := fun f k => by
      induction k with
      | zero => intro i j; rfl
      | succ k ih => intro i j; unfold cs_sf; rw [show i + j + 1 = i + (j + 1) from by omega, ih]
    have e0 := sh (fun k => if cs_sh g (cs_dk (ab_gi g 1 0) k) (k / (ab_gi g 1 0 - 1)) = -1 then 1 else 0) (ab_gi g 1 0 - 1).toNat (s * (ab_gi g 1 0 - 1)) 0
    rw [Int.add_zero] at e0
    rw [e0]
    have e1 : cs_sf (fun p => if cs_sh g (cs_dk (ab_gi g 1 0) (s * (ab_gi g 1 0 - 1) + p)) ((s * (ab_gi g 1 0 - 1) + p) / (ab_gi g 1 0 - 1)) = -1 then (1 : Int) else 0) 0 (ab_gi g 1 0 - 1).toNat = cs_sf (fun p => (fun d => if cs_b g d s = 1 ∧ 1 < cs_bc g s then (1 : Int) else 0) (if p < s % ab_gi g 1 0 then p else p + 1)) 0 (ab_gi g 1 0 - 1).toNat := by
      refine cs_sf_congr _ _ (fun p p1 p2 => ?_)
      have ed : (s * (ab_gi g 1 0 - 1) + p) / (ab_gi g 1 0 - 1) = s := by rw [Int.add_comm, Int.add_mul_ediv_right _ _ (by omega), Int.ediv_eq_zero_of_lt p1 (by omega), Int.zero_add]
      have er : (s * (ab_gi g 1 0 - 1) + p) % (ab_gi g 1 0 - 1) = p := by rw [Int.add_comm, Int.add_mul_emod_self_right, Int.emod_eq_of_lt p1 (by omega)]
      have ek : cs_dk (ab_gi g 1 0) (s * (ab_gi g 1 0 - 1) + p) = if p < s % ab_gi g 1 0 then p else p + 1 := by unfold cs_dk; rw [ed, er]
      rw [ed, ek]
      exact cs_sh_no hR (by split <;> omega) (by split <;> omega) s1 (by omega)
    rw [e1, cs_sf_but (G := fun d => if cs_b g d s = 1 ∧ 1 < cs_bc g s then (1 : Int) else 0) D3 (by omega) t1 t2]
    unfold cs_l1
    have eb : cs_sf (cs_lb g (-1) (-1) s) 0 (ab_gi g 1 0).toNat = cs_bc g s := cs_sf_congr _ _ (fun d d1 d2 => by
      unfold cs_lb
      rcases cs_b01 g d s with q | q
      · rw [if_neg (by omega), q]
      · rw [if_pos (Or.inr (Or.inr q)), q])
    rw [eb]
    by_cases c : 1 < cs_bc g s
    · rw [if_pos c]
      refine cs_sf_congr _ _ (fun d d1 d2 => ?_)
      unfold cs_ld
      by_cases z : d = s % ab_gi g 1 0
      · rw [if_pos z, if_neg (fun q => q.2 z)]
      · rw [if_neg z]
        by_cases w : cs_b g d s = 1
        · rw [if_pos ⟨w, c⟩, if_pos ⟨Or.inr (Or.inr w), z⟩]
        · rw [if_neg (fun q => w q.1), if_neg (by omega)]
    · rw [if_neg c]
      refine Eq.trans ?_ (cs_sf_zero (ab_gi g 1 0).toNat 0)
      refine cs_sf_congr _ _ (fun d d1 d2 => ?_)
      by_cases z : d = s % ab_gi g 1 0
      · rw [if_pos z]
      · rw [if_neg z, if_neg (fun q => c q.2)]
theorem cs_lost_2 {g : ab_H} {a b : Int} : cs_lost (ab_si (ab_si g 5 a 1) 5 b 1) (-1) (-1) = cs_lost g a b := by
  have e : ∀ c x, c ≠ 5 → ab_gi (ab_si (ab_si g 5 a 1) 5 b 1) c x = ab_gi g c x := fun c x hc => by rw [ab_gi_si, if_neg (fun q => hc q.1), ab_gi_si, if_neg (fun q => hc q.1)]
  have e5 : ∀ x, ab_gi (ab_si (ab_si g 5 a 1) 5 b 1) 5 x = if x = b ∨ x = a then 1 else ab_gi g 5 x := fun x => by
    rw [ab_gi_si, ab_gi_si]
    by_cases z : x = b
    · rw [if_pos ⟨rfl, z⟩, if_pos (Or.inl z)]
    · rw [if_neg (fun q => z q.2)]
      by_cases w : x = a
      · rw [if_pos ⟨rfl, w⟩, if_pos (Or.inr w)]
      · rw [if_neg (fun q => w q.2), if_neg (by omega)]
  have eb : ∀ d s, cs_b (ab_si (ab_si g 5 a 1) 5 b 1) d s = 1 ↔ (d = a ∨ d = b ∨ cs_b g d s = 1) := fun d s => by
    unfold cs_b
    rw [e5, e 3 _ (by decide), e 2 _ (by decide)]
    by_cases z : d = b ∨ d = a
    · rw [if_pos z, if_pos (Or.inl rfl)]
      exact ⟨fun _ => by omega, fun _ => rfl⟩
    · rw [if_neg z]
      exact ⟨fun q => Or.inr (Or.inr q), fun q => by
        rcases q with q | q | q
        · exact absurd (Or.inr q) z
        · exact absurd (Or.inl q) z
        · exact q⟩
  have elb : ∀ s d, 0 ≤ d → cs_lb (ab_si (ab_si g 5 a 1) 5 b 1) (-1) (-1) s d = cs_lb g a b s d := fun s d hd => by
    unfold cs_lb
    have := eb d s
    by_cases w : d = a ∨ d = b ∨ cs_b g d s = 1
    · rw [if_pos w, if_pos (Or.inr (Or.inr (this.mpr w)))]
    · rw [if_neg w, if_neg (fun q => by
        rcases q with q | q | q
        · omega
        · omega
        · exact w (this.mp q))]
  have eld : ∀ s d, 0 ≤ d → cs_ld (ab_si (ab_si g 5 a 1) 5 b 1) (-1) (-1) s d = cs_ld g a b s d := fun s d hd => by
    unfold cs_ld
    have := eb d s
    rw [e 1 0 (by decide)]
    by_cases w : (d = a ∨ d = b ∨ cs_b g d s = 1) ∧ d ≠ s % ab_gi g 1 0
    · rw [if_pos w, if_pos ⟨Or.inr (Or.inr (this.mpr w.1)), w.2⟩]
    · rw [if_neg w, if_neg (fun q => w ⟨by
        rcases q.1 with z | z | z
        · omega
        · omega
        · exact this.mp z, q.2⟩)]
  unfold cs_lost
  rw [e 1 1 (by decide)]
  refine cs_sf_congr _ _ (fun s s1 s2 => ?_)
  unfold cs_l1
  rw [e 1 0 (by decide), cs_sf_congr _ _ (fun d d1 d2 => elb s d d1), cs_sf_congr (f := cs_ld (ab_si (ab_si g 5 a 1) 5 b 1) (-1) (-1) s) _ _ (fun d d1 d2 => eld s d d1)]
theorem mvh_eq {g : ab_H} (hR : cs_R g) (w : Int) : mvh g w = cs_vh g w := by
  unfold mvh
  by_cases c : w = 8
  · rw [if_pos c, c, cs_lost_m hR]; rfl
  · rw [if_neg c]
/-! soundness -/
theorem ms1_1 (g : ab_H) (n : Int) : ∀ (k : Nat) (t : Int), ms1 g n t k = 1 ↔ ∀ j, t ≤ j → j < t + k → ¬ (j ≠ n ∧ cs_bc g j = 0 ∧ cs_xo g (j % ab_gi g 1 0) j ≠ ab_gi g 2 (j % ab_gi g 1 0 * 8 + j))
  | 0, t => ⟨fun _ j j1 j2 => by omega, fun _ => rfl⟩
  | k + 1, t => by
    have ih := ms1_1 g n k (t + 1)
    unfold ms1
    by_cases c : t ≠ n ∧ cs_bc g t = 0 ∧ cs_xo g (t % ab_gi g 1 0) t ≠ ab_gi g 2 (t % ab_gi g 1 0 * 8 + t)
    · rw [if_pos c]
      exact ⟨fun q => by omega, fun q => absurd c (q t (by omega) (by omega))⟩
    · rw [if_neg c, ih]
      exact ⟨fun q j j1 j2 => by
        by_cases z : j = t
        · rw [z]; exact c
        · exact q j (by omega) (by omega), fun q j j1 j2 => q j (by omega) (by omega)⟩
theorem ms2_1 (g : ab_H) (n : Int) : ∀ (k : Nat) (t : Int), ms2 g n t k = 1 ↔ ∀ j, t ≤ j → j < t + k → ¬ (j / (ab_gi g 1 0 - 1) ≠ n ∧ cs_sh g (cs_dk (ab_gi g 1 0) j) (j / (ab_gi g 1 0 - 1)) ≠ -1 ∧ cs_sh g (cs_dk (ab_gi g 1 0) j) (j / (ab_gi g 1 0 - 1)) ≠ ab_gi g 4 (cs_dk (ab_gi g 1 0) j * 8 + j / (ab_gi g 1 0 - 1)))
  | 0, t => ⟨fun _ j j1 j2 => by omega, fun _ => rfl⟩
  | k + 1, t => by
    have ih := ms2_1 g n k (t + 1)
    unfold ms2
    by_cases c : t / (ab_gi g 1 0 - 1) ≠ n ∧ cs_sh g (cs_dk (ab_gi g 1 0) t) (t / (ab_gi g 1 0 - 1)) ≠ -1 ∧ cs_sh g (cs_dk (ab_gi g 1 0) t) (t / (ab_gi g 1 0 - 1)) ≠ ab_gi g 4 (cs_dk (ab_gi g 1 0) t * 8 + t / (ab_gi g 1 0 - 1))
    · rw [if_pos c]
      exact ⟨fun q => by omega, fun q => absurd c (q t (by omega) (by omega))⟩
    · rw [if_neg c, ih]
      exact ⟨fun q j j1 j2 => by
        by_cases z : j = t
        · rw [z]; exact c
        · exact q j (by omega) (by omega), fun q j j1 j2 => q j (by omega) (by omega)⟩
theorem cs_sn_1 (g : ab_H) (n : Int) : ∀ (k : Nat) (t : Int), cs_sn g n t k = 1 ↔ ∀ j, t ≤ j → j < t + k → ¬ (j ≠ n ∧ cs_ss g j = 0)
  | 0, t => ⟨fun _ j j1 j2 => by omega, fun _ => rfl⟩
  | k + 1, t => by
    have ih := cs_sn_1 g n k (t + 1)
    unfold cs_sn
    by_cases c : t ≠ n ∧ cs_ss g t = 0
    · rw [if_pos c]
      exact ⟨fun q => by omega, fun q => absurd c (q t (by omega) (by omega))⟩
    · rw [if_neg c, ih]
      exact ⟨fun q j j1 j2 => by
        by_cases z : j = t
        · rw [z]; exact c
        · exact q j (by omega) (by omega), fun q j j1 j2 => q j (by omega) (by omega)⟩
theorem cs_sl_1 (g : ab_H) (s : Int) : ∀ (k : Nat) (i : Int), cs_sl g s i k = 1 ↔ ∀ d, i ≤ d → d < i + k → ¬ (d ≠ s % ab_gi g 1 0 ∧ ¬ (1 < cs_bc g s ∧ cs_b g d s = 1) ∧ cs_sh g d s ≠ ab_gi g 4 (d * 8 + s))
  | 0, i => ⟨fun _ j j1 j2 => by omega, fun _ => rfl⟩
  | k + 1, i => by
    have ih := cs_sl_1 g s k (i + 1)
    unfold cs_sl
    by_cases c : i ≠ s % ab_gi g 1 0 ∧ ¬ (1 < cs_bc g s ∧ cs_b g i s = 1) ∧ cs_sh g i s ≠ ab_gi g 4 (i * 8 + s)
    · rw [if_pos c]
      exact ⟨fun q => by omega, fun q => absurd c (q i (by omega) (by omega))⟩
    · rw [if_neg c, ih]
      exact ⟨fun q j j1 j2 => by
        by_cases z : j = i
        · rw [z]; exact c
        · exact q j (by omega) (by omega), fun q j j1 j2 => q j (by omega) (by omega)⟩
theorem mso_eq {g : ab_H} (hR : cs_R g) : mso g = cs_so g := by
  have hDS := hR.2.1
  have hB := cs_B_le hR
  have a1 : mso g = 1 ↔ cs_so g = 1 := by
    have m1 : mso g = 1 ↔ (ms1 g (cs_nt g) 0 (ab_gi g 1 1).toNat = 1 ∧ ms2 g (cs_nt g) 0 (cs_B g).toNat = 1) := by
      unfold mso
      rcases ms1_01 g (cs_nt g) (ab_gi g 1 1).toNat 0 with q | q
      · rw [if_pos q]; exact ⟨fun z => by omega, fun z => by omega⟩
      · rw [if_neg (by omega)]; exact ⟨fun z => ⟨q, z⟩, fun z => z.2⟩
    rw [m1, ms1_1, ms2_1]
    unfold cs_so
    rw [cs_sn_1]
    constructor
    · rintro ⟨q1, q2⟩ s s1 s2 ⟨hn, h0⟩
      have D3 : 3 ≤ ab_gi g 1 0 := by omega
      unfold cs_ss at h0
      by_cases c : cs_bc g s = 0 ∧ ab_gi g 2 (s % ab_gi g 1 0 * 8 + s) ≠ cs_xo g (s % ab_gi g 1 0) s
      · exact q1 s s1 s2 ⟨hn, c.1, fun z => c.2 z.symm⟩
      · rw [if_neg c] at h0
        have h1 : cs_sl g s 0 (ab_gi g 1 0).toNat = 1 := (cs_sl_1 g s (ab_gi g 1 0).toNat 0).mpr (fun d d1 d2 ⟨w1, w2, w3⟩ => by
          obtain ⟨y1, y2, y3, y4⟩ := cs_bi_B (S := ab_gi g 1 1) D3 (by omega) d1 (show d < ab_gi g 1 0 by omega) s1 (by omega) w1
          have y5 : cs_bi (ab_gi g 1 0) d s < cs_B g := by unfold cs_B; rw [if_pos (by omega)]; exact y2
          refine q2 (cs_bi (ab_gi g 1 0) d s) y1 (by omega) ⟨by rw [y3]; exact hn, ?_, by rw [y3, y4]; exact w3⟩
          rw [y3, y4]
          intro z
          have := cs_sh_no hR d1 (show d < ab_gi g 1 0 by omega) s1 (show s < ab_gi g 1 1 by omega)
          rw [if_pos z] at this
          by_cases v : cs_b g d s = 1 ∧ 1 < cs_bc g s
          · exact w2 ⟨v.2, v.1⟩
          · rw [if_neg v] at this; omega)
        omega
    · intro q
      have key : ∀ s, 0 ≤ s → s < 0 + ((ab_gi g 1 1).toNat : Int) → s ≠ cs_nt g → cs_ss g s = 1 := fun s s1 s2 hn => by
        rcases cs_ss_01 g s with z | z
        · exact absurd ⟨hn, z⟩ (q s s1 s2)
        · exact z
      refine ⟨fun s s1 s2 ⟨hn, h0, hx⟩ => ?_, fun k k1 k2 ⟨hn, h0, hx⟩ => ?_⟩
      · have := key s s1 s2 hn
        unfold cs_ss at this
        rw [if_pos ⟨h0, fun z => hx z.symm⟩] at this
        omega
      · obtain ⟨hD, h3, b1, b2, b3, b4, b5, b6⟩ := cs_B_D hR k1 (show k < cs_B g by omega)
        have := key (k / (ab_gi g 1 0 - 1)) b2 (by omega) hn
        unfold cs_ss at this
        by_cases c : cs_bc g (k / (ab_gi g 1 0 - 1)) = 0 ∧ ab_gi g 2 (k / (ab_gi g 1 0 - 1) % ab_gi g 1 0 * 8 + k / (ab_gi g 1 0 - 1)) ≠ cs_xo g (k / (ab_gi g 1 0 - 1) % ab_gi g 1 0) (k / (ab_gi g 1 0 - 1))
        · rw [if_pos c] at this; omega
        · rw [if_neg c] at this
          refine (cs_sl_1 g _ _ 0).mp this (cs_dk (ab_gi g 1 0) k) b4 (by omega) ⟨b6, fun z => h0 ?_, hx⟩
          have w := cs_sh_no hR b4 b5 b2 b3
          by_cases v : cs_sh g (cs_dk (ab_gi g 1 0) k) (k / (ab_gi g 1 0 - 1)) = -1
          · exact v
          · rw [if_neg v, if_pos ⟨z.2, z.1⟩] at w; omega
  have b1 : cs_so g = 0 ∨ cs_so g = 1 := cs_sn_01 _ _ _ _
  rcases mso_01 g with p | p
  · rcases b1 with q | q
    · rw [p, q]
    · have := a1.mpr q; omega
  · rw [p, a1.mp p]
theorem mdg_eq {g : ab_H} (hR : cs_R g) : mdg g = cs_dg g := by
  unfold mdg cs_dg
  rw [mso_eq hR, show mvh g = cs_vh g from funext fun w => mvh_eq hR w]
end
