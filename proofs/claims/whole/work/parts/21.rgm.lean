theorem rg_m_in_0 {d : Nat} {P : Nat → mj_L → List mj_V → mj_M → Prop} {R : Option mj_V → mj_M → Prop} (hP : mj_Cl mj_c86 (mj_Sp d) (0 < d) P R) {w0 : Int64} {w2 : Int64} {w4 : Int64} {M : mj_M} (h :
  ((lg_cmp w0 w2) < 0 →
  R (some (mj_i (nI 0))) M) ∧
  (¬ (lg_cmp w0 w2) < 0 →
  (0 < (lg_cmp w0 w4) →
    R (some (mj_i (nI 0))) M) ∧
    (¬ 0 < (lg_cmp w0 w4) →
    R (some (mj_i (nI 1))) M))) : P 0 [some (mj_l w0), none, some (mj_l w2), none, some (mj_l w4), none] [] M :=
  hP 0 _ _ _ ⟨fun c1 => hP 17 _ _ _ (hP 18 _ _ _ ⟨(Or.inl rfl), (h.1 c1)⟩), fun c1 => ⟨fun c2 => hP 17 _ _ _ (hP 18 _ _ _ ⟨(Or.inl rfl), ((h.2 c1).1 c2)⟩), fun c2 => hP 18 _ _ _ ⟨(Or.inr rfl), ((h.2 c1).2 c2)⟩⟩⟩
theorem rg_m_isCloud_0 {d : Nat} {P : Nat → mj_L → List mj_V → mj_M → Prop} {R : Option mj_V → mj_M → Prop} (hP : mj_Cl mj_c87 (mj_Sp d) (0 < d) P R) {x1 : Int32} {M : mj_M} (h :
  ∃ (y_2 : Int32) (M_1 : mj_M), mj_Sp d 86 [mj_l x1.toInt64, mj_l (lN 0), mj_l (((M 14 0 0 0) - (nI 1)).toInt64)] M (some (mj_i y_2)) M_1 ∧
  (y_2 = 0 ∨ y_2 = 1) ∧ R (some (mj_i y_2)) M_1) : P 0 [some (mj_r (30, 60, 0)), some (mj_i x1)] [] M :=
  hP 0 _ _ _ ⟨rfl, ⟨rfl, Exists.elim h fun e1 g1 => Exists.elim g1 fun a1 b1 => ⟨e1, a1, b1.1, hP 13 _ _ _ ⟨b1.2.1, b1.2.2⟩⟩⟩⟩
theorem rg_m_isVillage_0 {d : Nat} {P : Nat → mj_L → List mj_V → mj_M → Prop} {R : Option mj_V → mj_M → Prop} (hP : mj_Cl mj_c88 (mj_Sp d) (0 < d) P R) {x1 : Int32} {M : mj_M} (h :
  ∃ (y_2 : Int32) (M_1 : mj_M), mj_Sp d 86 [mj_l x1.toInt64, mj_l (lN 0), mj_l (((M 14 0 0 1) - (nI 1)).toInt64)] M (some (mj_i y_2)) M_1 ∧
  (y_2 = 0 ∨ y_2 = 1) ∧ R (some (mj_i y_2)) M_1) : P 0 [some (mj_r (30, 60, 0)), some (mj_i x1)] [] M :=
  hP 0 _ _ _ ⟨rfl, ⟨rfl, Exists.elim h fun e1 g1 => Exists.elim g1 fun a1 b1 => ⟨e1, a1, b1.1, hP 13 _ _ _ ⟨b1.2.1, b1.2.2⟩⟩⟩⟩
theorem rg_m_isOver_0 {d : Nat} {P : Nat → mj_L → List mj_V → mj_M → Prop} {R : Option mj_V → mj_M → Prop} (hP : mj_Cl mj_c89 (mj_Sp d) (0 < d) P R) {x1 : Int32} {M : mj_M} (h :
  vp_in ((nI 0) + x1) 76 ∧ ((nI 25) ≤ (mj_rd M (14, 61, 0) ((nI 0) + x1).toNatClampNeg) →
  R (some (mj_i (nI 0))) M) ∧
  (¬ (nI 25) ≤ (mj_rd M (14, 61, 0) ((nI 0) + x1).toNatClampNeg) →
  R (some (mj_i (nI 1))) M)) : P 0 [some (mj_r (30, 60, 0)), some (mj_i x1)] [] M :=
  hP 0 _ _ _ ⟨rfl, ⟨h.1, ⟨fun c1 => hP 17 _ _ _ (hP 18 _ _ _ ⟨(Or.inl rfl), (h.2.1 c1)⟩), fun c1 => hP 18 _ _ _ ⟨(Or.inr rfl), (h.2.2 c1)⟩⟩⟩⟩
theorem rg_m_comes_0 {d : Nat} {P : Nat → mj_L → List mj_V → mj_M → Prop} {R : Option mj_V → mj_M → Prop} (hP : mj_Cl mj_c90 (mj_Sp d) (0 < d) P R) {x1 : Int32} {x2 : Int32} {x3 : Int32} {M : mj_M} (h :
  vp_in ((nI 0) + (M 14 0 0 0)) 76 ∧ ∀ M_1 : mj_M, M_1 = mj_wr M (14, 61, 0) ((nI 0) + (M 14 0 0 0)).toNatClampNeg x2 → vp_in ((nI 6) + (M_1 14 0 0 0)) 76 ∧ ∀ M_2 : mj_M, M_2 = mj_wr M_1 (14, 61, 0) ((nI 6) + (M_1 14 0 0 0)).toNatClampNeg x3 → vp_in ((nI 12) + (M_2 14 0 0 0)) 76 ∧ ∀ M_3 : mj_M, M_3 = mj_wr M_2 (14, 61, 0) ((nI 12) + (M_2 14 0 0 0)).toNatClampNeg x1 → P 41 [some (mj_r (30, 60, 0)), some (mj_i x1), some (mj_i x2), some (mj_i x3), some (mj_i (nI 0))] [] M_3) : P 0 [some (mj_r (30, 60, 0)), some (mj_i x1), some (mj_i x2), some (mj_i x3), none] [] M :=
  hP 0 _ _ _ ⟨rfl, ⟨rfl, ⟨rfl, ⟨h.1, ⟨rfl, ⟨rfl, ⟨rfl, ⟨(h.2 _ rfl).1, ⟨rfl, ⟨rfl, ⟨rfl, ⟨((h.2 _ rfl).2 _ rfl).1, ⟨rfl, (((h.2 _ rfl).2 _ rfl).2 _ rfl)⟩⟩⟩⟩⟩⟩⟩⟩⟩⟩⟩⟩⟩
theorem rg_m_comes_41 {d : Nat} {P : Nat → mj_L → List mj_V → mj_M → Prop} {R : Option mj_V → mj_M → Prop} (hP : mj_Cl mj_c90 (mj_Sp d) (0 < d) P R) {x1 : Int32} {x2 : Int32} {x3 : Int32} {x4 : Int32} {M : mj_M} (h :
  ((nI 4) ≤ x4 →
  ∀ M_1 : mj_M, M_1 = mj_wl M (14, 0, 0, 0) ((M 14 0 0 0) + (nI 1)) → R (some (mj_i ((M_1 14 0 0 0) - (nI 1)))) M_1) ∧
  (¬ (nI 4) ≤ x4 →
  vp_in (((nI 18) + ((nI 6) * x4)) + (M 14 0 0 0)) 76 ∧ ∀ M_2 : mj_M, M_2 = mj_wr M (14, 61, 0) (((nI 18) + ((nI 6) * x4)) + (M 14 0 0 0)).toNatClampNeg (nI 0) → ∀ x4_3 : Int32, x4_3 = x4 + (nI 1) → P 41 [some (mj_r (30, 60, 0)), some (mj_i x1), some (mj_i x2), some (mj_i x3), some (mj_i x4_3)] [] M_2)) : P 41 [some (mj_r (30, 60, 0)), some (mj_i x1), some (mj_i x2), some (mj_i x3), some (mj_i x4)] [] M :=
  hP 41 _ _ _ ⟨fun c1 => hP 72 _ _ _ ⟨rfl, ⟨rfl, ⟨rfl, ((h.1 c1) _ rfl)⟩⟩⟩, fun c1 => ⟨rfl, ⟨rfl, ⟨rfl, ⟨(h.2 c1).1, ⟨rfl, (((h.2 c1).2 _ rfl) _ rfl)⟩⟩⟩⟩⟩⟩
theorem rg_m_cloud_0 {d : Nat} {P : Nat → mj_L → List mj_V → mj_M → Prop} {R : Option mj_V → mj_M → Prop} (hP : mj_Cl mj_c91 (mj_Sp d) (0 < d) P R) {x1 : Int32} {x2 : Int32} {x3 : Int32} {M : mj_M} (h :
  ∃ (y_2 : Int32) (M_1 : mj_M), mj_Sp d 86 [mj_l x1.toInt64, mj_l (lN 0), mj_l (lN 3)] M (some (mj_i y_2)) M_1 ∧
  (y_2 = 0 →
  R (some (mj_i (-(nI 1)))) M_1) ∧
  (¬ y_2 = 0 →
  ∃ (y_4 : Int32) (M_3 : mj_M), mj_Sp d 86 [mj_l x2.toInt64, mj_l (lN 0), mj_l (lN 24)] M_1 (some (mj_i y_4)) M_3 ∧
    (y_4 = 0 →
    R (some (mj_i (-(nI 1)))) M_3) ∧
    (¬ y_4 = 0 →
    ∃ (y_6 : Int32) (M_5 : mj_M), mj_Sp d 86 [mj_l x3.toInt64, mj_l (lN 1), mj_l (lN 999)] M_3 (some (mj_i y_6)) M_5 ∧
      (¬ y_6 = 0 →
      (¬ (M_5 14 0 0 0) = (nI 6) →
        ∃ (y_8 : Int32) (M_7 : mj_M), mj_Sp d 90 [mj_r (30, 60, 0), mj_i x1, mj_i x2, mj_i x3] M_5 (some (mj_i y_8)) M_7 ∧
          R (some (mj_i y_8)) M_7) ∧
        (¬ ¬ (M_5 14 0 0 0) = (nI 6) →
        R (some (mj_i (-(nI 3)))) M_5)) ∧
      (¬ ¬ y_6 = 0 →
      R (some (mj_i (-(nI 1)))) M_5)))) : P 0 [some (mj_r (30, 60, 0)), some (mj_i x1), some (mj_i x2), some (mj_i x3)] [] M :=
  hP 0 _ _ _ ⟨rfl, Exists.elim h fun e1 g1 => Exists.elim g1 fun a1 b1 => ⟨e1, a1, b1.1, hP 9 _ _ _ ⟨fun c2 => hP 36 _ _ _ (b1.2.1 c2), fun c2 => ⟨rfl, Exists.elim (b1.2.2 c2) fun e3 g3 => Exists.elim g3 fun a3 b3 => ⟨e3, a3, b3.1, hP 21 _ _ _ ⟨fun c4 => hP 36 _ _ _ (b3.2.1 c4), fun c4 => ⟨rfl, Exists.elim (b3.2.2 c4) fun e5 g5 => Exists.elim g5 fun a5 b5 => ⟨e5, a5, b5.1, hP 33 _ _ _ ⟨fun c6 => hP 38 _ _ _ ⟨rfl, ⟨fun c7 => hP 52 _ _ _ ⟨rfl, Exists.elim ((b5.2.1 c6).1 c7) fun e8 g8 => Exists.elim g8 fun a8 b8 => ⟨e8, a8, b8.1, hP 59 _ _ _ b8.2⟩⟩, fun c7 => hP 59 _ _ _ ((b5.2.1 c6).2 c7)⟩⟩, fun c6 => hP 36 _ _ _ (b5.2.2 c6)⟩⟩⟩⟩⟩⟩⟩⟩⟩
theorem rg_m_village_0 {d : Nat} {P : Nat → mj_L → List mj_V → mj_M → Prop} {R : Option mj_V → mj_M → Prop} (hP : mj_Cl mj_c92 (mj_Sp d) (0 < d) P R) {x1 : Int32} {x2 : Int32} {x3 : Int32} {M : mj_M} (h :
  ∃ (y_2 : Int32) (M_1 : mj_M), mj_Sp d 86 [mj_l x1.toInt64, mj_l (lN 0), mj_l (lN 24)] M (some (mj_i y_2)) M_1 ∧
  (y_2 = 0 →
  R (some (mj_i (-(nI 1)))) M_1) ∧
  (¬ y_2 = 0 →
  ∃ (y_4 : Int32) (M_3 : mj_M), mj_Sp d 86 [mj_l x2.toInt64, mj_l (lN 0), mj_l (lN 9)] M_1 (some (mj_i y_4)) M_3 ∧
    (y_4 = 0 →
    R (some (mj_i (-(nI 1)))) M_3) ∧
    (¬ y_4 = 0 →
    ∃ (y_6 : Int32) (M_5 : mj_M), mj_Sp d 86 [mj_l x3.toInt64, mj_l (lN 0), mj_l (lN 99)] M_3 (some (mj_i y_6)) M_5 ∧
      (¬ y_6 = 0 →
      ∃ (y_8 : Int32) (M_7 : mj_M), mj_Sp d 93 [mj_r (30, 60, 0), mj_i x1] M_5 (some (mj_i y_8)) M_7 ∧
        (y_8 < 0 →
        (¬ (M_7 14 0 0 1) = (nI 4) →
          vp_in (M_7 14 0 0 1) 4 ∧ ∀ M_9 : mj_M, M_9 = mj_wl M_7 (14, 5, 0, (M_7 14 0 0 1).toNatClampNeg) x1 → vp_in (M_9 14 0 0 1) 4 ∧ ∀ M_10 : mj_M, M_10 = mj_wl M_9 (14, 7, 0, (M_9 14 0 0 1).toNatClampNeg) x3 → vp_in ((nI 42) + (M_10 14 0 0 1)) 76 ∧ ∀ M_11 : mj_M, M_11 = mj_wr M_10 (14, 61, 0) ((nI 42) + (M_10 14 0 0 1)).toNatClampNeg x2 → vp_in ((nI 46) + (M_11 14 0 0 1)) 76 ∧ ∀ M_12 : mj_M, M_12 = mj_wr M_11 (14, 61, 0) ((nI 46) + (M_11 14 0 0 1)).toNatClampNeg (nI 0) → ∀ M_13 : mj_M, M_13 = mj_wl M_12 (14, 0, 0, 1) ((M_12 14 0 0 1) + (nI 1)) → R (some (mj_i ((M_13 14 0 0 1) - (nI 1)))) M_13) ∧
          (¬ ¬ (M_7 14 0 0 1) = (nI 4) →
          R (some (mj_i (-(nI 3)))) M_7)) ∧
        (¬ y_8 < 0 →
        R (some (mj_i (-(nI 2)))) M_7)) ∧
      (¬ ¬ y_6 = 0 →
      R (some (mj_i (-(nI 1)))) M_5)))) : P 0 [some (mj_r (30, 60, 0)), some (mj_i x1), some (mj_i x2), some (mj_i x3)] [] M :=
  hP 0 _ _ _ ⟨rfl, Exists.elim h fun e1 g1 => Exists.elim g1 fun a1 b1 => ⟨e1, a1, b1.1, hP 9 _ _ _ ⟨fun c2 => hP 36 _ _ _ (b1.2.1 c2), fun c2 => ⟨rfl, Exists.elim (b1.2.2 c2) fun e3 g3 => Exists.elim g3 fun a3 b3 => ⟨e3, a3, b3.1, hP 21 _ _ _ ⟨fun c4 => hP 36 _ _ _ (b3.2.1 c4), fun c4 => ⟨rfl, Exists.elim (b3.2.2 c4) fun e5 g5 => Exists.elim g5 fun a5 b5 => ⟨e5, a5, b5.1, hP 33 _ _ _ ⟨fun c6 => hP 38 _ _ _ ⟨rfl, Exists.elim (b5.2.1 c6) fun e7 g7 => Exists.elim g7 fun a7 b7 => ⟨e7, a7, b7.1, hP 43 _ _ _ ⟨fun c8 => hP 49 _ _ _ ⟨rfl, ⟨fun c9 => hP 60 _ _ _ ⟨rfl, ⟨rfl, ⟨rfl, ⟨((b7.2.1 c8).1 c9).1, ⟨rfl, ⟨rfl, ⟨rfl, ⟨(((b7.2.1 c8).1 c9).2 _ rfl).1, ⟨rfl, ⟨rfl, ⟨rfl, ⟨((((b7.2.1 c8).1 c9).2 _ rfl).2 _ rfl).1, ⟨rfl, ⟨rfl, ⟨rfl, ⟨(((((b7.2.1 c8).1 c9).2 _ rfl).2 _ rfl).2 _ rfl).1, ⟨rfl, ⟨rfl, ⟨rfl, (((((((b7.2.1 c8).1 c9).2 _ rfl).2 _ rfl).2 _ rfl).2 _ rfl) _ rfl)⟩⟩⟩⟩⟩⟩⟩⟩⟩⟩⟩⟩⟩⟩⟩⟩⟩⟩⟩, fun c9 => ((b7.2.1 c8).2 c9)⟩⟩, fun c8 => (b7.2.2 c8)⟩⟩⟩, fun c6 => hP 36 _ _ _ (b5.2.2 c6)⟩⟩⟩⟩⟩⟩⟩⟩⟩
theorem rg_m_villageIn_0 {d : Nat} {P : Nat → mj_L → List mj_V → mj_M → Prop} {R : Option mj_V → mj_M → Prop} (hP : mj_Cl mj_c93 (mj_Sp d) (0 < d) P R) {x1 : Int32} {M : mj_M} (h :
  P 4 [some (mj_r (30, 60, 0)), some (mj_i x1), some (mj_i (-(nI 1))), some (mj_i (nI 0))] [] M) : P 0 [some (mj_r (30, 60, 0)), some (mj_i x1), none, none] [] M :=
  hP 0 _ _ _ ⟨rfl, ⟨rfl, h⟩⟩
theorem rg_m_villageIn_4 {d : Nat} {P : Nat → mj_L → List mj_V → mj_M → Prop} {R : Option mj_V → mj_M → Prop} (hP : mj_Cl mj_c93 (mj_Sp d) (0 < d) P R) {x1 : Int32} {x2 : Int32} {x3 : Int32} {M : mj_M} (h :
  ((M 14 0 0 1) ≤ x3 →
  R (some (mj_i x2)) M) ∧
  (¬ (M 14 0 0 1) ≤ x3 →
  vp_in x3 4 ∧ (¬ (M 14 5 0 x3.toNatClampNeg) = x1 →
    ∀ x3_1 : Int32, x3_1 = x3 + (nI 1) → P 4 [some (mj_r (30, 60, 0)), some (mj_i x1), some (mj_i x2), some (mj_i x3_1)] [] M) ∧
    (¬ ¬ (M 14 5 0 x3.toNatClampNeg) = x1 →
    ∀ x3_2 : Int32, x3_2 = x3 + (nI 1) → P 4 [some (mj_r (30, 60, 0)), some (mj_i x1), some (mj_i x3), some (mj_i x3_2)] [] M))) : P 4 [some (mj_r (30, 60, 0)), some (mj_i x1), some (mj_i x2), some (mj_i x3)] [] M :=
  hP 4 _ _ _ ⟨rfl, ⟨fun c1 => hP 34 _ _ _ (h.1 c1), fun c1 => ⟨rfl, ⟨(h.2 c1).1, ⟨fun c2 => hP 26 _ _ _ (hP 27 _ _ _ ⟨rfl, ⟨rfl, (((h.2 c1).2.1 c2) _ rfl)⟩⟩), fun c2 => hP 27 _ _ _ ⟨rfl, ⟨rfl, (((h.2 c1).2.2 c2) _ rfl)⟩⟩⟩⟩⟩⟩⟩
theorem rg_m_strings_0 {d : Nat} {P : Nat → mj_L → List mj_V → mj_M → Prop} {R : Option mj_V → mj_M → Prop} (hP : mj_Cl mj_c94 (mj_Sp d) (0 < d) P R) {x1 : Int32} {M : mj_M} (h :
  P 4 [some (mj_r (30, 60, 0)), some (mj_i x1), some (mj_i (nI 0)), some (mj_i (nI 0))] [] M) : P 0 [some (mj_r (30, 60, 0)), some (mj_i x1), none, none] [] M :=
  hP 0 _ _ _ ⟨rfl, ⟨rfl, h⟩⟩
theorem rg_m_strings_4 {d : Nat} {P : Nat → mj_L → List mj_V → mj_M → Prop} {R : Option mj_V → mj_M → Prop} (hP : mj_Cl mj_c94 (mj_Sp d) (0 < d) P R) {x1 : Int32} {x2 : Int32} {x3 : Int32} {M : mj_M} (h :
  ((M 14 0 0 1) ≤ x3 →
  R (some (mj_i x2)) M) ∧
  (¬ (M 14 0 0 1) ≤ x3 →
  vp_in (((nI 18) + ((nI 6) * x3)) + x1) 76 ∧ ∀ x2_1 : Int32, x2_1 = x2 + (mj_rd M (14, 61, 0) (((nI 18) + ((nI 6) * x3)) + x1).toNatClampNeg) → ∀ x3_2 : Int32, x3_2 = x3 + (nI 1) → P 4 [some (mj_r (30, 60, 0)), some (mj_i x1), some (mj_i x2_1), some (mj_i x3_2)] [] M)) : P 4 [some (mj_r (30, 60, 0)), some (mj_i x1), some (mj_i x2), some (mj_i x3)] [] M :=
  hP 4 _ _ _ ⟨rfl, ⟨fun c1 => hP 35 _ _ _ (h.1 c1), fun c1 => ⟨rfl, ⟨(h.2 c1).1, ⟨rfl, ⟨rfl, (((h.2 c1).2 _ rfl) _ rfl)⟩⟩⟩⟩⟩⟩
theorem rg_m_heldBy_0 {d : Nat} {P : Nat → mj_L → List mj_V → mj_M → Prop} {R : Option mj_V → mj_M → Prop} (hP : mj_Cl mj_c95 (mj_Sp d) (0 < d) P R) {x1 : Int32} {M : mj_M} (h :
  P 4 [some (mj_r (30, 60, 0)), some (mj_i x1), some (mj_i (nI 0)), some (mj_i (nI 0))] [] M) : P 0 [some (mj_r (30, 60, 0)), some (mj_i x1), none, none] [] M :=
  hP 0 _ _ _ ⟨rfl, ⟨rfl, h⟩⟩
theorem rg_m_heldBy_4 {d : Nat} {P : Nat → mj_L → List mj_V → mj_M → Prop} {R : Option mj_V → mj_M → Prop} (hP : mj_Cl mj_c95 (mj_Sp d) (0 < d) P R) {x1 : Int32} {x2 : Int32} {x3 : Int32} {M : mj_M} (h :
  ((nI 6) ≤ x3 →
  R (some (mj_i x2)) M) ∧
  (¬ (nI 6) ≤ x3 →
  vp_in (((nI 18) + ((nI 6) * x1)) + x3) 76 ∧ ∀ x2_1 : Int32, x2_1 = x2 + (mj_rd M (14, 61, 0) (((nI 18) + ((nI 6) * x1)) + x3).toNatClampNeg) → ∀ x3_2 : Int32, x3_2 = x3 + (nI 1) → P 4 [some (mj_r (30, 60, 0)), some (mj_i x1), some (mj_i x2_1), some (mj_i x3_2)] [] M)) : P 4 [some (mj_r (30, 60, 0)), some (mj_i x1), some (mj_i x2), some (mj_i x3)] [] M :=
  hP 4 _ _ _ ⟨fun c1 => hP 33 _ _ _ (h.1 c1), fun c1 => ⟨rfl, ⟨(h.2 c1).1, ⟨rfl, ⟨rfl, (((h.2 c1).2 _ rfl) _ rfl)⟩⟩⟩⟩⟩
theorem rg_m_told_0 {d : Nat} {P : Nat → mj_L → List mj_V → mj_M → Prop} {R : Option mj_V → mj_M → Prop} (hP : mj_Cl mj_c96 (mj_Sp d) (0 < d) P R) {x1 : Int32} {x2 : Int32} {M : mj_M} (h :
  ∃ (y_2 : Int32) (M_1 : mj_M), mj_Sp d 87 [mj_r (30, 60, 0), mj_i x1] M (some (mj_i y_2)) M_1 ∧
  (y_2 = 0 →
  R (some (mj_i (-(nI 1)))) M_1) ∧
  (¬ y_2 = 0 →
  ∃ (y_4 : Int32) (M_3 : mj_M), mj_Sp d 86 [mj_l x2.toInt64, mj_l (lN 0), mj_l (lN 3)] M_1 (some (mj_i y_4)) M_3 ∧
    (¬ y_4 = 0 →
    (¬ x2 = 0 →
      (¬ x2 = (nI 1) →
        (¬ x2 = (nI 2) →
          ∃ (y_6 : Int32) (M_5 : mj_M), mj_Sp d 94 [mj_r (30, 60, 0), mj_i x1] M_3 (some (mj_i y_6)) M_5 ∧
            R (some (mj_i y_6)) M_5) ∧
          (¬ ¬ x2 = (nI 2) →
          vp_in ((nI 6) + x1) 76 ∧ R (some (mj_i (mj_rd M_3 (14, 61, 0) ((nI 6) + x1).toNatClampNeg))) M_3)) ∧
        (¬ ¬ x2 = (nI 1) →
        vp_in ((nI 0) + x1) 76 ∧ R (some (mj_i (mj_rd M_3 (14, 61, 0) ((nI 0) + x1).toNatClampNeg))) M_3)) ∧
      (¬ ¬ x2 = 0 →
      vp_in ((nI 12) + x1) 76 ∧ R (some (mj_i (mj_rd M_3 (14, 61, 0) ((nI 12) + x1).toNatClampNeg))) M_3)) ∧
    (¬ ¬ y_4 = 0 →
    R (some (mj_i (-(nI 1)))) M_3))) : P 0 [some (mj_r (30, 60, 0)), some (mj_i x1), some (mj_i x2)] [] M :=
  hP 0 _ _ _ ⟨rfl, Exists.elim h fun e1 g1 => Exists.elim g1 fun a1 b1 => ⟨e1, a1, b1.1, hP 5 _ _ _ ⟨fun c2 => hP 20 _ _ _ (b1.2.1 c2), fun c2 => ⟨rfl, Exists.elim (b1.2.2 c2) fun e3 g3 => Exists.elim g3 fun a3 b3 => ⟨e3, a3, b3.1, hP 17 _ _ _ ⟨fun c4 => hP 22 _ _ _ ⟨fun c5 => hP 38 _ _ _ ⟨fun c6 => hP 54 _ _ _ ⟨fun c7 => hP 71 _ _ _ ⟨rfl, Exists.elim ((((b3.2.1 c4).1 c5).1 c6).1 c7) fun e8 g8 => Exists.elim g8 fun a8 b8 => ⟨e8, a8, b8.1, hP 76 _ _ _ b8.2⟩⟩, fun c7 => ⟨rfl, ⟨((((b3.2.1 c4).1 c5).1 c6).2 c7).1, hP 76 _ _ _ (((((b3.2.1 c4).1 c5).1 c6).2 c7).2)⟩⟩⟩, fun c6 => ⟨rfl, ⟨(((b3.2.1 c4).1 c5).2 c6).1, hP 76 _ _ _ ((((b3.2.1 c4).1 c5).2 c6).2)⟩⟩⟩, fun c5 => ⟨rfl, ⟨((b3.2.1 c4).2 c5).1, hP 76 _ _ _ (((b3.2.1 c4).2 c5).2)⟩⟩⟩, fun c4 => hP 20 _ _ _ (b3.2.2 c4)⟩⟩⟩⟩⟩⟩
theorem rg_m_of_0 {d : Nat} {P : Nat → mj_L → List mj_V → mj_M → Prop} {R : Option mj_V → mj_M → Prop} (hP : mj_Cl mj_c97 (mj_Sp d) (0 < d) P R) {x1 : Int32} {x2 : Int32} {M : mj_M} (h :
  ∃ (y_2 : Int32) (M_1 : mj_M), mj_Sp d 88 [mj_r (30, 60, 0), mj_i x1] M (some (mj_i y_2)) M_1 ∧
  (y_2 = 0 →
  R (some (mj_i (-(nI 1)))) M_1) ∧
  (¬ y_2 = 0 →
  ∃ (y_4 : Int32) (M_3 : mj_M), mj_Sp d 86 [mj_l x2.toInt64, mj_l (lN 0), mj_l (lN 4)] M_1 (some (mj_i y_4)) M_3 ∧
    (¬ y_4 = 0 →
    (x2 = nI 0 →
      vp_in x1 4 ∧ R (some (mj_i (M_3 14 5 0 x1.toNatClampNeg))) M_3) ∧
      (¬ x2 = nI 0 →
      (x2 = nI 1 →
        vp_in ((nI 42) + x1) 76 ∧ R (some (mj_i (mj_rd M_3 (14, 61, 0) ((nI 42) + x1).toNatClampNeg))) M_3) ∧
        (¬ x2 = nI 1 →
        (x2 = nI 2 →
          vp_in x1 4 ∧ R (some (mj_i (M_3 14 7 0 x1.toNatClampNeg))) M_3) ∧
          (¬ x2 = nI 2 →
          (x2 = nI 3 →
            vp_in ((nI 46) + x1) 76 ∧ R (some (mj_i (mj_rd M_3 (14, 61, 0) ((nI 46) + x1).toNatClampNeg))) M_3) ∧
            (¬ x2 = nI 3 →
            vp_in ((nI 42) + x1) 76 ∧ ∃ (y_6 : Int32) (M_5 : mj_M), mj_Sp d 95 [mj_r (30, 60, 0), mj_i x1] M_3 (some (mj_i y_6)) M_5 ∧
              R (some (mj_i ((mj_rd M_3 (14, 61, 0) ((nI 42) + x1).toNatClampNeg) - y_6))) M_5))))) ∧
    (¬ ¬ y_4 = 0 →
    R (some (mj_i (-(nI 1)))) M_3))) : P 0 [some (mj_r (30, 60, 0)), some (mj_i x1), some (mj_i x2)] [] M :=
  hP 0 _ _ _ ⟨rfl, Exists.elim h fun e1 g1 => Exists.elim g1 fun a1 b1 => ⟨e1, a1, b1.1, hP 5 _ _ _ ⟨fun c2 => hP 20 _ _ _ (b1.2.1 c2), fun c2 => ⟨rfl, Exists.elim (b1.2.2 c2) fun e3 g3 => Exists.elim g3 fun a3 b3 => ⟨e3, a3, b3.1, hP 17 _ _ _ ⟨fun c4 => hP 22 _ _ _ ⟨fun c5 => hP 52 _ _ _ ⟨rfl, ⟨((b3.2.1 c4).1 c5).1, ((b3.2.1 c4).1 c5).2⟩⟩, fun c5 => ⟨fun c6 => hP 59 _ _ _ ⟨rfl, ⟨(((b3.2.1 c4).2 c5).1 c6).1, (((b3.2.1 c4).2 c5).1 c6).2⟩⟩, fun c6 => ⟨fun c7 => hP 69 _ _ _ ⟨rfl, ⟨((((b3.2.1 c4).2 c5).2 c6).1 c7).1, ((((b3.2.1 c4).2 c5).2 c6).1 c7).2⟩⟩, fun c7 => ⟨fun c8 => hP 76 _ _ _ ⟨rfl, ⟨(((((b3.2.1 c4).2 c5).2 c6).2 c7).1 c8).1, (((((b3.2.1 c4).2 c5).2 c6).2 c7).1 c8).2⟩⟩, fun c8 => hP 86 _ _ _ ⟨rfl, ⟨(((((b3.2.1 c4).2 c5).2 c6).2 c7).2 c8).1, ⟨rfl, Exists.elim ((((((b3.2.1 c4).2 c5).2 c6).2 c7).2 c8).2) fun e9 g9 => Exists.elim g9 fun a9 b9 => ⟨e9, a9, b9.1, hP 100 _ _ _ b9.2⟩⟩⟩⟩⟩⟩⟩⟩, fun c4 => hP 20 _ _ _ (b3.2.2 c4)⟩⟩⟩⟩⟩⟩
theorem rg_m_set_0 {d : Nat} {P : Nat → mj_L → List mj_V → mj_M → Prop} {R : Option mj_V → mj_M → Prop} (hP : mj_Cl mj_c98 (mj_Sp d) (0 < d) P R) {x1 : Int32} {x2 : Int32} {x3 : Int32} {M : mj_M} (h :
  ∃ (y_2 : Int32) (M_1 : mj_M), mj_Sp d 88 [mj_r (30, 60, 0), mj_i x1] M (some (mj_i y_2)) M_1 ∧
  (y_2 = 0 →
  R (some (mj_i (-(nI 1)))) M_1) ∧
  (¬ y_2 = 0 →
  ∃ (y_4 : Int32) (M_3 : mj_M), mj_Sp d 86 [mj_l x2.toInt64, mj_l (lN 0), mj_l (lN 1)] M_1 (some (mj_i y_4)) M_3 ∧
    (y_4 = 0 →
    R (some (mj_i (-(nI 1)))) M_3) ∧
    (¬ y_4 = 0 →
    (¬ x2 = 0 →
      ∃ (y_6 : Int32) (M_5 : mj_M), mj_Sp d 86 [mj_l x3.toInt64, mj_l (lN 0), mj_l (lN 99)] M_3 (some (mj_i y_6)) M_5 ∧
        (¬ y_6 = 0 →
        (¬ x2 = 0 →
          (¬ x2 = 0 →
            vp_in x1 4 ∧ ∀ x4_7 : Int32, x4_7 = M_5 14 7 0 x1.toNatClampNeg → (¬ x2 = 0 →
              vp_in x1 4 ∧ ∀ M_8 : mj_M, M_8 = mj_wl M_5 (14, 7, 0, x1.toNatClampNeg) x3 → R (some (mj_i x4_7)) M_8) ∧
              (¬ ¬ x2 = 0 →
              vp_in ((nI 42) + x1) 76 ∧ ∀ M_9 : mj_M, M_9 = mj_wr M_5 (14, 61, 0) ((nI 42) + x1).toNatClampNeg x3 → R (some (mj_i x4_7)) M_9)) ∧
            (¬ ¬ x2 = 0 →
            vp_in ((nI 42) + x1) 76 ∧ ∀ x4_10 : Int32, x4_10 = mj_rd M_5 (14, 61, 0) ((nI 42) + x1).toNatClampNeg → (¬ x2 = 0 →
              vp_in x1 4 ∧ ∀ M_11 : mj_M, M_11 = mj_wl M_5 (14, 7, 0, x1.toNatClampNeg) x3 → R (some (mj_i x4_10)) M_11) ∧
              (¬ ¬ x2 = 0 →
              vp_in ((nI 42) + x1) 76 ∧ ∀ M_12 : mj_M, M_12 = mj_wr M_5 (14, 61, 0) ((nI 42) + x1).toNatClampNeg x3 → R (some (mj_i x4_10)) M_12))) ∧
          (¬ ¬ x2 = 0 →
          ∃ (y_14 : Int32) (M_13 : mj_M), mj_Sp d 95 [mj_r (30, 60, 0), mj_i x1] M_5 (some (mj_i y_14)) M_13 ∧
            (y_14 ≤ x3 →
            (¬ x2 = 0 →
              vp_in x1 4 ∧ ∀ x4_15 : Int32, x4_15 = M_13 14 7 0 x1.toNatClampNeg → (¬ x2 = 0 →
                vp_in x1 4 ∧ ∀ M_16 : mj_M, M_16 = mj_wl M_13 (14, 7, 0, x1.toNatClampNeg) x3 → R (some (mj_i x4_15)) M_16) ∧
                (¬ ¬ x2 = 0 →
                vp_in ((nI 42) + x1) 76 ∧ ∀ M_17 : mj_M, M_17 = mj_wr M_13 (14, 61, 0) ((nI 42) + x1).toNatClampNeg x3 → R (some (mj_i x4_15)) M_17)) ∧
              (¬ ¬ x2 = 0 →
              vp_in ((nI 42) + x1) 76 ∧ ∀ x4_18 : Int32, x4_18 = mj_rd M_13 (14, 61, 0) ((nI 42) + x1).toNatClampNeg → (¬ x2 = 0 →
                vp_in x1 4 ∧ ∀ M_19 : mj_M, M_19 = mj_wl M_13 (14, 7, 0, x1.toNatClampNeg) x3 → R (some (mj_i x4_18)) M_19) ∧
                (¬ ¬ x2 = 0 →
                vp_in ((nI 42) + x1) 76 ∧ ∀ M_20 : mj_M, M_20 = mj_wr M_13 (14, 61, 0) ((nI 42) + x1).toNatClampNeg x3 → R (some (mj_i x4_18)) M_20))) ∧
            (¬ y_14 ≤ x3 →
            R (some (mj_i (-(nI 2)))) M_13))) ∧
        (¬ ¬ y_6 = 0 →
        R (some (mj_i (-(nI 1)))) M_5)) ∧
      (¬ ¬ x2 = 0 →
      ∃ (y_22 : Int32) (M_21 : mj_M), mj_Sp d 86 [mj_l x3.toInt64, mj_l (lN 0), mj_l (lN 9)] M_3 (some (mj_i y_22)) M_21 ∧
        (¬ y_22 = 0 →
        (¬ x2 = 0 →
          (¬ x2 = 0 →
            vp_in x1 4 ∧ ∀ x4_23 : Int32, x4_23 = M_21 14 7 0 x1.toNatClampNeg → (¬ x2 = 0 →
              vp_in x1 4 ∧ ∀ M_24 : mj_M, M_24 = mj_wl M_21 (14, 7, 0, x1.toNatClampNeg) x3 → R (some (mj_i x4_23)) M_24) ∧
              (¬ ¬ x2 = 0 →
              vp_in ((nI 42) + x1) 76 ∧ ∀ M_25 : mj_M, M_25 = mj_wr M_21 (14, 61, 0) ((nI 42) + x1).toNatClampNeg x3 → R (some (mj_i x4_23)) M_25)) ∧
            (¬ ¬ x2 = 0 →
            vp_in ((nI 42) + x1) 76 ∧ ∀ x4_26 : Int32, x4_26 = mj_rd M_21 (14, 61, 0) ((nI 42) + x1).toNatClampNeg → (¬ x2 = 0 →
              vp_in x1 4 ∧ ∀ M_27 : mj_M, M_27 = mj_wl M_21 (14, 7, 0, x1.toNatClampNeg) x3 → R (some (mj_i x4_26)) M_27) ∧
              (¬ ¬ x2 = 0 →
              vp_in ((nI 42) + x1) 76 ∧ ∀ M_28 : mj_M, M_28 = mj_wr M_21 (14, 61, 0) ((nI 42) + x1).toNatClampNeg x3 → R (some (mj_i x4_26)) M_28))) ∧
          (¬ ¬ x2 = 0 →
          ∃ (y_30 : Int32) (M_29 : mj_M), mj_Sp d 95 [mj_r (30, 60, 0), mj_i x1] M_21 (some (mj_i y_30)) M_29 ∧
            (y_30 ≤ x3 →
            (¬ x2 = 0 →
              vp_in x1 4 ∧ ∀ x4_31 : Int32, x4_31 = M_29 14 7 0 x1.toNatClampNeg → (¬ x2 = 0 →
                vp_in x1 4 ∧ ∀ M_32 : mj_M, M_32 = mj_wl M_29 (14, 7, 0, x1.toNatClampNeg) x3 → R (some (mj_i x4_31)) M_32) ∧
                (¬ ¬ x2 = 0 →
                vp_in ((nI 42) + x1) 76 ∧ ∀ M_33 : mj_M, M_33 = mj_wr M_29 (14, 61, 0) ((nI 42) + x1).toNatClampNeg x3 → R (some (mj_i x4_31)) M_33)) ∧
              (¬ ¬ x2 = 0 →
              vp_in ((nI 42) + x1) 76 ∧ ∀ x4_34 : Int32, x4_34 = mj_rd M_29 (14, 61, 0) ((nI 42) + x1).toNatClampNeg → (¬ x2 = 0 →
                vp_in x1 4 ∧ ∀ M_35 : mj_M, M_35 = mj_wl M_29 (14, 7, 0, x1.toNatClampNeg) x3 → R (some (mj_i x4_34)) M_35) ∧
                (¬ ¬ x2 = 0 →
                vp_in ((nI 42) + x1) 76 ∧ ∀ M_36 : mj_M, M_36 = mj_wr M_29 (14, 61, 0) ((nI 42) + x1).toNatClampNeg x3 → R (some (mj_i x4_34)) M_36))) ∧
            (¬ y_30 ≤ x3 →
            R (some (mj_i (-(nI 2)))) M_29))) ∧
        (¬ ¬ y_22 = 0 →
        R (some (mj_i (-(nI 1)))) M_21))))) : P 0 [some (mj_r (30, 60, 0)), some (mj_i x1), some (mj_i x2), some (mj_i x3), none] [] M :=
  hP 0 _ _ _ ⟨rfl, Exists.elim h fun e1 g1 => Exists.elim g1 fun a1 b1 => ⟨e1, a1, b1.1, hP 5 _ _ _ ⟨fun c2 => hP 40 _ _ _ (b1.2.1 c2), fun c2 => ⟨rfl, Exists.elim (b1.2.2 c2) fun e3 g3 => Exists.elim g3 fun a3 b3 => ⟨e3, a3, b3.1, hP 15 _ _ _ ⟨fun c4 => hP 40 _ _ _ (b3.2.1 c4), fun c4 => ⟨fun c5 => hP 31 _ _ _ (hP 34 _ _ _ ⟨rfl, Exists.elim ((b3.2.2 c4).1 c5) fun e6 g6 => Exists.elim g6 fun a6 b6 => ⟨e6, a6, b6.1, hP 37 _ _ _ ⟨fun c7 => hP 42 _ _ _ ⟨fun c8 => hP 58 _ _ _ ⟨fun c9 => hP 74 _ _ _ ⟨rfl, ⟨(((b6.2.1 c7).1 c8).1 c9).1, hP 80 _ _ _ ⟨rfl, ⟨fun c10 => hP 99 _ _ _ ⟨rfl, ⟨rfl, ⟨(((((b6.2.1 c7).1 c8).1 c9).2 _ rfl).1 c10).1, hP 106 _ _ _ ((((((b6.2.1 c7).1 c8).1 c9).2 _ rfl).1 c10).2 _ rfl)⟩⟩⟩, fun c10 => ⟨rfl, ⟨rfl, ⟨(((((b6.2.1 c7).1 c8).1 c9).2 _ rfl).2 c10).1, hP 106 _ _ _ ((((((b6.2.1 c7).1 c8).1 c9).2 _ rfl).2 c10).2 _ rfl)⟩⟩⟩⟩⟩⟩⟩, fun c9 => ⟨rfl, ⟨(((b6.2.1 c7).1 c8).2 c9).1, hP 80 _ _ _ ⟨rfl, ⟨fun c11 => hP 99 _ _ _ ⟨rfl, ⟨rfl, ⟨(((((b6.2.1 c7).1 c8).2 c9).2 _ rfl).1 c11).1, hP 106 _ _ _ ((((((b6.2.1 c7).1 c8).2 c9).2 _ rfl).1 c11).2 _ rfl)⟩⟩⟩, fun c11 => ⟨rfl, ⟨rfl, ⟨(((((b6.2.1 c7).1 c8).2 c9).2 _ rfl).2 c11).1, hP 106 _ _ _ ((((((b6.2.1 c7).1 c8).2 c9).2 _ rfl).2 c11).2 _ rfl)⟩⟩⟩⟩⟩⟩⟩⟩, fun c8 => ⟨rfl, Exists.elim ((b6.2.1 c7).2 c8) fun e12 g12 => Exists.elim g12 fun a12 b12 => ⟨e12, a12, b12.1, hP 51 _ _ _ ⟨fun c13 => hP 58 _ _ _ ⟨fun c14 => hP 74 _ _ _ ⟨rfl, ⟨((b12.2.1 c13).1 c14).1, hP 80 _ _ _ ⟨rfl, ⟨fun c15 => hP 99 _ _ _ ⟨rfl, ⟨rfl, ⟨((((b12.2.1 c13).1 c14).2 _ rfl).1 c15).1, hP 106 _ _ _ (((((b12.2.1 c13).1 c14).2 _ rfl).1 c15).2 _ rfl)⟩⟩⟩, fun c15 => ⟨rfl, ⟨rfl, ⟨((((b12.2.1 c13).1 c14).2 _ rfl).2 c15).1, hP 106 _ _ _ (((((b12.2.1 c13).1 c14).2 _ rfl).2 c15).2 _ rfl)⟩⟩⟩⟩⟩⟩⟩, fun c14 => ⟨rfl, ⟨((b12.2.1 c13).2 c14).1, hP 80 _ _ _ ⟨rfl, ⟨fun c16 => hP 99 _ _ _ ⟨rfl, ⟨rfl, ⟨((((b12.2.1 c13).2 c14).2 _ rfl).1 c16).1, hP 106 _ _ _ (((((b12.2.1 c13).2 c14).2 _ rfl).1 c16).2 _ rfl)⟩⟩⟩, fun c16 => ⟨rfl, ⟨rfl, ⟨((((b12.2.1 c13).2 c14).2 _ rfl).2 c16).1, hP 106 _ _ _ (((((b12.2.1 c13).2 c14).2 _ rfl).2 c16).2 _ rfl)⟩⟩⟩⟩⟩⟩⟩⟩, fun c13 => (b12.2.2 c13)⟩⟩⟩⟩, fun c7 => hP 40 _ _ _ (b6.2.2 c7)⟩⟩⟩), fun c5 => hP 34 _ _ _ ⟨rfl, Exists.elim ((b3.2.2 c4).2 c5) fun e17 g17 => Exists.elim g17 fun a17 b17 => ⟨e17, a17, b17.1, hP 37 _ _ _ ⟨fun c18 => hP 42 _ _ _ ⟨fun c19 => hP 58 _ _ _ ⟨fun c20 => hP 74 _ _ _ ⟨rfl, ⟨(((b17.2.1 c18).1 c19).1 c20).1, hP 80 _ _ _ ⟨rfl, ⟨fun c21 => hP 99 _ _ _ ⟨rfl, ⟨rfl, ⟨(((((b17.2.1 c18).1 c19).1 c20).2 _ rfl).1 c21).1, hP 106 _ _ _ ((((((b17.2.1 c18).1 c19).1 c20).2 _ rfl).1 c21).2 _ rfl)⟩⟩⟩, fun c21 => ⟨rfl, ⟨rfl, ⟨(((((b17.2.1 c18).1 c19).1 c20).2 _ rfl).2 c21).1, hP 106 _ _ _ ((((((b17.2.1 c18).1 c19).1 c20).2 _ rfl).2 c21).2 _ rfl)⟩⟩⟩⟩⟩⟩⟩, fun c20 => ⟨rfl, ⟨(((b17.2.1 c18).1 c19).2 c20).1, hP 80 _ _ _ ⟨rfl, ⟨fun c22 => hP 99 _ _ _ ⟨rfl, ⟨rfl, ⟨(((((b17.2.1 c18).1 c19).2 c20).2 _ rfl).1 c22).1, hP 106 _ _ _ ((((((b17.2.1 c18).1 c19).2 c20).2 _ rfl).1 c22).2 _ rfl)⟩⟩⟩, fun c22 => ⟨rfl, ⟨rfl, ⟨(((((b17.2.1 c18).1 c19).2 c20).2 _ rfl).2 c22).1, hP 106 _ _ _ ((((((b17.2.1 c18).1 c19).2 c20).2 _ rfl).2 c22).2 _ rfl)⟩⟩⟩⟩⟩⟩⟩⟩, fun c19 => ⟨rfl, Exists.elim ((b17.2.1 c18).2 c19) fun e23 g23 => Exists.elim g23 fun a23 b23 => ⟨e23, a23, b23.1, hP 51 _ _ _ ⟨fun c24 => hP 58 _ _ _ ⟨fun c25 => hP 74 _ _ _ ⟨rfl, ⟨((b23.2.1 c24).1 c25).1, hP 80 _ _ _ ⟨rfl, ⟨fun c26 => hP 99 _ _ _ ⟨rfl, ⟨rfl, ⟨((((b23.2.1 c24).1 c25).2 _ rfl).1 c26).1, hP 106 _ _ _ (((((b23.2.1 c24).1 c25).2 _ rfl).1 c26).2 _ rfl)⟩⟩⟩, fun c26 => ⟨rfl, ⟨rfl, ⟨((((b23.2.1 c24).1 c25).2 _ rfl).2 c26).1, hP 106 _ _ _ (((((b23.2.1 c24).1 c25).2 _ rfl).2 c26).2 _ rfl)⟩⟩⟩⟩⟩⟩⟩, fun c25 => ⟨rfl, ⟨((b23.2.1 c24).2 c25).1, hP 80 _ _ _ ⟨rfl, ⟨fun c27 => hP 99 _ _ _ ⟨rfl, ⟨rfl, ⟨((((b23.2.1 c24).2 c25).2 _ rfl).1 c27).1, hP 106 _ _ _ (((((b23.2.1 c24).2 c25).2 _ rfl).1 c27).2 _ rfl)⟩⟩⟩, fun c27 => ⟨rfl, ⟨rfl, ⟨((((b23.2.1 c24).2 c25).2 _ rfl).2 c27).1, hP 106 _ _ _ (((((b23.2.1 c24).2 c25).2 _ rfl).2 c27).2 _ rfl)⟩⟩⟩⟩⟩⟩⟩⟩, fun c24 => (b23.2.2 c24)⟩⟩⟩⟩, fun c18 => hP 40 _ _ _ (b17.2.2 c18)⟩⟩⟩⟩⟩⟩⟩⟩⟩⟩
theorem rg_m_hold_0 {d : Nat} {P : Nat → mj_L → List mj_V → mj_M → Prop} {R : Option mj_V → mj_M → Prop} (hP : mj_Cl mj_c99 (mj_Sp d) (0 < d) P R) {x1 : Int32} {x2 : Int32} {x3 : Int32} {M : mj_M} (h :
  ∃ (y_2 : Int32) (M_1 : mj_M), mj_Sp d 88 [mj_r (30, 60, 0), mj_i x1] M (some (mj_i y_2)) M_1 ∧
  (y_2 = 0 →
  R (some (mj_i (-(nI 1)))) M_1) ∧
  (¬ y_2 = 0 →
  ∃ (y_4 : Int32) (M_3 : mj_M), mj_Sp d 87 [mj_r (30, 60, 0), mj_i x2] M_1 (some (mj_i y_4)) M_3 ∧
    (y_4 = 0 →
    R (some (mj_i (-(nI 1)))) M_3) ∧
    (¬ y_4 = 0 →
    ∃ (y_6 : Int32) (M_5 : mj_M), mj_Sp d 86 [mj_l x3.toInt64, mj_l (lN 0), mj_l (lN 9)] M_3 (some (mj_i y_6)) M_5 ∧
      (¬ y_6 = 0 →
      ∃ (y_8 : Int32) (M_7 : mj_M), mj_Sp d 89 [mj_r (30, 60, 0), mj_i x2] M_5 (some (mj_i y_8)) M_7 ∧
        (¬ y_8 = 0 →
        vp_in (((nI 18) + ((nI 6) * x1)) + x2) 76 ∧ ∀ x4_9 : Int32, x4_9 = mj_rd M_7 (14, 61, 0) (((nI 18) + ((nI 6) * x1)) + x2).toNatClampNeg → ∃ (y_11 : Int32) (M_10 : mj_M), mj_Sp d 95 [mj_r (30, 60, 0), mj_i x1] M_7 (some (mj_i y_11)) M_10 ∧
          vp_in ((nI 42) + x1) 76 ∧ (((y_11 - x4_9) + x3) ≤ (mj_rd M_10 (14, 61, 0) ((nI 42) + x1).toNatClampNeg) →
          vp_in (((nI 18) + ((nI 6) * x1)) + x2) 76 ∧ ∀ M_12 : mj_M, M_12 = mj_wr M_10 (14, 61, 0) (((nI 18) + ((nI 6) * x1)) + x2).toNatClampNeg x3 → R (some (mj_i x4_9)) M_12) ∧
          (¬ ((y_11 - x4_9) + x3) ≤ (mj_rd M_10 (14, 61, 0) ((nI 42) + x1).toNatClampNeg) →
          R (some (mj_i (-(nI 3)))) M_10)) ∧
        (¬ ¬ y_8 = 0 →
        R (some (mj_i (-(nI 2)))) M_7)) ∧
      (¬ ¬ y_6 = 0 →
      R (some (mj_i (-(nI 1)))) M_5)))) : P 0 [some (mj_r (30, 60, 0)), some (mj_i x1), some (mj_i x2), some (mj_i x3), none] [] M :=
  hP 0 _ _ _ ⟨rfl, Exists.elim h fun e1 g1 => Exists.elim g1 fun a1 b1 => ⟨e1, a1, b1.1, hP 5 _ _ _ ⟨fun c2 => hP 28 _ _ _ (b1.2.1 c2), fun c2 => ⟨rfl, Exists.elim (b1.2.2 c2) fun e3 g3 => Exists.elim g3 fun a3 b3 => ⟨e3, a3, b3.1, hP 13 _ _ _ ⟨fun c4 => hP 28 _ _ _ (b3.2.1 c4), fun c4 => ⟨rfl, Exists.elim (b3.2.2 c4) fun e5 g5 => Exists.elim g5 fun a5 b5 => ⟨e5, a5, b5.1, hP 25 _ _ _ ⟨fun c6 => hP 30 _ _ _ ⟨rfl, Exists.elim (b5.2.1 c6) fun e7 g7 => Exists.elim g7 fun a7 b7 => ⟨e7, a7, b7.1, hP 35 _ _ _ ⟨fun c8 => hP 41 _ _ _ ⟨rfl, ⟨(b7.2.1 c8).1, ⟨rfl, ⟨rfl, Exists.elim ((b7.2.1 c8).2 _ rfl) fun e9 g9 => Exists.elim g9 fun a9 b9 => ⟨e9, a9, b9.1, hP 62 _ _ _ ⟨rfl, ⟨b9.2.1, ⟨fun c10 => hP 82 _ _ _ ⟨rfl, ⟨rfl, ⟨(b9.2.2.1 c10).1, ((b9.2.2.1 c10).2 _ rfl)⟩⟩⟩, fun c10 => (b9.2.2.2 c10)⟩⟩⟩⟩⟩⟩⟩⟩, fun c8 => (b7.2.2 c8)⟩⟩⟩, fun c6 => hP 28 _ _ _ (b5.2.2 c6)⟩⟩⟩⟩⟩⟩⟩⟩⟩
theorem rg_m_holds_0 {d : Nat} {P : Nat → mj_L → List mj_V → mj_M → Prop} {R : Option mj_V → mj_M → Prop} (hP : mj_Cl mj_c100 (mj_Sp d) (0 < d) P R) {x1 : Int32} {x2 : Int32} {M : mj_M} (h :
  ∃ (y_2 : Int32) (M_1 : mj_M), mj_Sp d 88 [mj_r (30, 60, 0), mj_i x1] M (some (mj_i y_2)) M_1 ∧
  (y_2 = 0 →
  R (some (mj_i (-(nI 1)))) M_1) ∧
  (¬ y_2 = 0 →
  ∃ (y_4 : Int32) (M_3 : mj_M), mj_Sp d 87 [mj_r (30, 60, 0), mj_i x2] M_1 (some (mj_i y_4)) M_3 ∧
    (y_4 = 0 →
    R (some (mj_i (-(nI 1)))) M_3) ∧
    (¬ y_4 = 0 →
    vp_in (((nI 18) + ((nI 6) * x1)) + x2) 76 ∧ R (some (mj_i (mj_rd M_3 (14, 61, 0) (((nI 18) + ((nI 6) * x1)) + x2).toNatClampNeg))) M_3))) : P 0 [some (mj_r (30, 60, 0)), some (mj_i x1), some (mj_i x2)] [] M :=
  hP 0 _ _ _ ⟨rfl, Exists.elim h fun e1 g1 => Exists.elim g1 fun a1 b1 => ⟨e1, a1, b1.1, hP 5 _ _ _ ⟨fun c2 => hP 33 _ _ _ (hP 34 _ _ _ (b1.2.1 c2)), fun c2 => ⟨rfl, Exists.elim (b1.2.2 c2) fun e3 g3 => Exists.elim g3 fun a3 b3 => ⟨e3, a3, b3.1, hP 13 _ _ _ ⟨fun c4 => hP 33 _ _ _ (hP 34 _ _ _ (b3.2.1 c4)), fun c4 => ⟨rfl, ⟨(b3.2.2 c4).1, hP 34 _ _ _ ((b3.2.2 c4).2)⟩⟩⟩⟩⟩⟩⟩⟩
theorem rg_m_letGo_0 {d : Nat} {P : Nat → mj_L → List mj_V → mj_M → Prop} {R : Option mj_V → mj_M → Prop} (hP : mj_Cl mj_c101 (mj_Sp d) (0 < d) P R) {x1 : Int32} {M : mj_M} (h :
  P 2 [some (mj_r (30, 60, 0)), some (mj_i x1), some (mj_i (nI 0))] [] M) : P 0 [some (mj_r (30, 60, 0)), some (mj_i x1), none] [] M :=
  hP 0 _ _ _ ⟨rfl, h⟩
theorem rg_m_letGo_2 {d : Nat} {P : Nat → mj_L → List mj_V → mj_M → Prop} {R : Option mj_V → mj_M → Prop} (hP : mj_Cl mj_c101 (mj_Sp d) (0 < d) P R) {x1 : Int32} {x2 : Int32} {M : mj_M} (h :
  ((nI 4) ≤ x2 →
  R none M) ∧
  (¬ (nI 4) ≤ x2 →
  vp_in (((nI 18) + ((nI 6) * x2)) + x1) 76 ∧ ∀ M_1 : mj_M, M_1 = mj_wr M (14, 61, 0) (((nI 18) + ((nI 6) * x2)) + x1).toNatClampNeg (nI 0) → ∀ x2_2 : Int32, x2_2 = x2 + (nI 1) → P 2 [some (mj_r (30, 60, 0)), some (mj_i x1), some (mj_i x2_2)] [] M_1)) : P 2 [some (mj_r (30, 60, 0)), some (mj_i x1), some (mj_i x2)] [] M :=
  hP 2 _ _ _ ⟨fun c1 => hP 28 _ _ _ (h.1 c1), fun c1 => ⟨rfl, ⟨rfl, ⟨(h.2 c1).1, ⟨rfl, (((h.2 c1).2 _ rfl) _ rfl)⟩⟩⟩⟩⟩
theorem rg_m_join_0 {d : Nat} {P : Nat → mj_L → List mj_V → mj_M → Prop} {R : Option mj_V → mj_M → Prop} (hP : mj_Cl mj_c102 (mj_Sp d) (0 < d) P R) {x1 : Int32} {x2 : Int32} {M : mj_M} (h :
  ∃ (y_2 : Int32) (M_1 : mj_M), mj_Sp d 87 [mj_r (30, 60, 0), mj_i x1] M (some (mj_i y_2)) M_1 ∧
  (y_2 = 0 →
  R (some (mj_i (-(nI 1)))) M_1) ∧
  (¬ y_2 = 0 →
  ∃ (y_4 : Int32) (M_3 : mj_M), mj_Sp d 87 [mj_r (30, 60, 0), mj_i x2] M_1 (some (mj_i y_4)) M_3 ∧
    (y_4 = 0 →
    R (some (mj_i (-(nI 1)))) M_3) ∧
    (¬ y_4 = 0 →
    (¬ x1 = x2 →
      ∃ (y_6 : Int32) (M_5 : mj_M), mj_Sp d 89 [mj_r (30, 60, 0), mj_i x1] M_3 (some (mj_i y_6)) M_5 ∧
        (y_6 = 0 →
        R (some (mj_i (-(nI 2)))) M_5) ∧
        (¬ y_6 = 0 →
        vp_in ((nI 0) + x1) 76 ∧ vp_in ((nI 0) + x2) 76 ∧ ((mj_rd M_5 (14, 61, 0) ((nI 0) + x1).toNatClampNeg) = (mj_rd M_5 (14, 61, 0) ((nI 0) + x2).toNatClampNeg) →
          vp_in ((nI 6) + x1) 76 ∧ vp_in ((nI 6) + x2) 76 ∧ ∀ x3_7 : Int32, x3_7 = (mj_rd M_5 (14, 61, 0) ((nI 6) + x1).toNatClampNeg) + (mj_rd M_5 (14, 61, 0) ((nI 6) + x2).toNatClampNeg) → (x3_7 ≤ (nI 999) →
            vp_in ((nI 0) + x1) 76 ∧ vp_in ((nI 50) + (mj_rd M_5 (14, 61, 0) ((nI 0) + x1).toNatClampNeg)) 76 ∧ vp_in ((nI 50) + (mj_rd M_5 (14, 61, 0) ((nI 0) + x1).toNatClampNeg)) 76 ∧ ∀ M_8 : mj_M, M_8 = mj_wr M_5 (14, 61, 0) ((nI 50) + (mj_rd M_5 (14, 61, 0) ((nI 0) + x1).toNatClampNeg)).toNatClampNeg ((mj_rd M_5 (14, 61, 0) ((nI 50) + (mj_rd M_5 (14, 61, 0) ((nI 0) + x1).toNatClampNeg)).toNatClampNeg) + (x3_7 - x3_7)) → vp_in ((nI 6) + x1) 76 ∧ ∀ M_9 : mj_M, M_9 = mj_wr M_8 (14, 61, 0) ((nI 6) + x1).toNatClampNeg x3_7 → vp_in ((nI 6) + x2) 76 ∧ ∀ M_10 : mj_M, M_10 = mj_wr M_9 (14, 61, 0) ((nI 6) + x2).toNatClampNeg (nI 0) → vp_in ((nI 0) + x2) 76 ∧ ∀ M_11 : mj_M, M_11 = mj_wr M_10 (14, 61, 0) ((nI 0) + x2).toNatClampNeg (nI 25) → ∃ M_12 : mj_M, mj_Sp d 101 [mj_r (30, 60, 0), mj_i x2] M_11 none M_12 ∧
              R (some (mj_i x3_7)) M_12) ∧
            (¬ x3_7 ≤ (nI 999) →
            vp_in ((nI 0) + x1) 76 ∧ vp_in ((nI 50) + (mj_rd M_5 (14, 61, 0) ((nI 0) + x1).toNatClampNeg)) 76 ∧ vp_in ((nI 50) + (mj_rd M_5 (14, 61, 0) ((nI 0) + x1).toNatClampNeg)) 76 ∧ ∀ M_13 : mj_M, M_13 = mj_wr M_5 (14, 61, 0) ((nI 50) + (mj_rd M_5 (14, 61, 0) ((nI 0) + x1).toNatClampNeg)).toNatClampNeg ((mj_rd M_5 (14, 61, 0) ((nI 50) + (mj_rd M_5 (14, 61, 0) ((nI 0) + x1).toNatClampNeg)).toNatClampNeg) + (x3_7 - (nI 999))) → vp_in ((nI 6) + x1) 76 ∧ ∀ M_14 : mj_M, M_14 = mj_wr M_13 (14, 61, 0) ((nI 6) + x1).toNatClampNeg (nI 999) → vp_in ((nI 6) + x2) 76 ∧ ∀ M_15 : mj_M, M_15 = mj_wr M_14 (14, 61, 0) ((nI 6) + x2).toNatClampNeg (nI 0) → vp_in ((nI 0) + x2) 76 ∧ ∀ M_16 : mj_M, M_16 = mj_wr M_15 (14, 61, 0) ((nI 0) + x2).toNatClampNeg (nI 25) → ∃ M_17 : mj_M, mj_Sp d 101 [mj_r (30, 60, 0), mj_i x2] M_16 none M_17 ∧
              R (some (mj_i (nI 999))) M_17)) ∧
          (¬ (mj_rd M_5 (14, 61, 0) ((nI 0) + x1).toNatClampNeg) = (mj_rd M_5 (14, 61, 0) ((nI 0) + x2).toNatClampNeg) →
          R (some (mj_i (-(nI 2)))) M_5))) ∧
      (¬ ¬ x1 = x2 →
      R (some (mj_i (-(nI 1)))) M_3)))) : P 0 [some (mj_r (30, 60, 0)), some (mj_i x1), some (mj_i x2), none, none] [] M :=
  hP 0 _ _ _ ⟨rfl, Exists.elim h fun e1 g1 => Exists.elim g1 fun a1 b1 => ⟨e1, a1, b1.1, hP 5 _ _ _ ⟨fun c2 => hP 21 _ _ _ (b1.2.1 c2), fun c2 => ⟨rfl, Exists.elim (b1.2.2 c2) fun e3 g3 => Exists.elim g3 fun a3 b3 => ⟨e3, a3, b3.1, hP 13 _ _ _ ⟨fun c4 => hP 21 _ _ _ (b3.2.1 c4), fun c4 => ⟨fun c5 => hP 23 _ _ _ ⟨rfl, Exists.elim ((b3.2.2 c4).1 c5) fun e6 g6 => Exists.elim g6 fun a6 b6 => ⟨e6, a6, b6.1, hP 28 _ _ _ ⟨fun c7 => hP 50 _ _ _ (b6.2.1 c7), fun c7 => ⟨rfl, ⟨(b6.2.2 c7).1, ⟨rfl, ⟨(b6.2.2 c7).2.1, ⟨fun c8 => hP 53 _ _ _ ⟨rfl, ⟨((b6.2.2 c7).2.2.1 c8).1, ⟨rfl, ⟨((b6.2.2 c7).2.2.1 c8).2.1, ⟨rfl, ⟨fun c9 => hP 86 _ _ _ (hP 87 _ _ _ ⟨rfl, ⟨rfl, ⟨rfl, ⟨((((b6.2.2 c7).2.2.1 c8).2.2 _ rfl).1 c9).1, ⟨((((b6.2.2 c7).2.2.1 c8).2.2 _ rfl).1 c9).2.1, ⟨rfl, ⟨((((b6.2.2 c7).2.2.1 c8).2.2 _ rfl).1 c9).2.2.1, ⟨rfl, ⟨rfl, ⟨(((((b6.2.2 c7).2.2.1 c8).2.2 _ rfl).1 c9).2.2.2 _ rfl).1, ⟨rfl, ⟨rfl, ⟨((((((b6.2.2 c7).2.2.1 c8).2.2 _ rfl).1 c9).2.2.2 _ rfl).2 _ rfl).1, ⟨rfl, ⟨rfl, ⟨(((((((b6.2.2 c7).2.2.1 c8).2.2 _ rfl).1 c9).2.2.2 _ rfl).2 _ rfl).2 _ rfl).1, ⟨rfl, Exists.elim ((((((((b6.2.2 c7).2.2.1 c8).2.2 _ rfl).1 c9).2.2.2 _ rfl).2 _ rfl).2 _ rfl).2 _ rfl) fun a10 b10 => ⟨a10, b10.1, hP 148 _ _ _ b10.2⟩⟩⟩⟩⟩⟩⟩⟩⟩⟩⟩⟩⟩⟩⟩⟩⟩⟩), fun c9 => hP 87 _ _ _ ⟨rfl, ⟨rfl, ⟨rfl, ⟨((((b6.2.2 c7).2.2.1 c8).2.2 _ rfl).2 c9).1, ⟨((((b6.2.2 c7).2.2.1 c8).2.2 _ rfl).2 c9).2.1, ⟨rfl, ⟨((((b6.2.2 c7).2.2.1 c8).2.2 _ rfl).2 c9).2.2.1, ⟨rfl, ⟨rfl, ⟨(((((b6.2.2 c7).2.2.1 c8).2.2 _ rfl).2 c9).2.2.2 _ rfl).1, ⟨rfl, ⟨rfl, ⟨((((((b6.2.2 c7).2.2.1 c8).2.2 _ rfl).2 c9).2.2.2 _ rfl).2 _ rfl).1, ⟨rfl, ⟨rfl, ⟨(((((((b6.2.2 c7).2.2.1 c8).2.2 _ rfl).2 c9).2.2.2 _ rfl).2 _ rfl).2 _ rfl).1, ⟨rfl, Exists.elim ((((((((b6.2.2 c7).2.2.1 c8).2.2 _ rfl).2 c9).2.2.2 _ rfl).2 _ rfl).2 _ rfl).2 _ rfl) fun a11 b11 => ⟨a11, b11.1, hP 148 _ _ _ b11.2⟩⟩⟩⟩⟩⟩⟩⟩⟩⟩⟩⟩⟩⟩⟩⟩⟩⟩⟩⟩⟩⟩⟩⟩, fun c8 => hP 50 _ _ _ ((b6.2.2 c7).2.2.2 c8)⟩⟩⟩⟩⟩⟩⟩⟩, fun c5 => hP 21 _ _ _ ((b3.2.2 c4).2 c5)⟩⟩⟩⟩⟩⟩⟩
theorem rg_m_split_0 {d : Nat} {P : Nat → mj_L → List mj_V → mj_M → Prop} {R : Option mj_V → mj_M → Prop} (hP : mj_Cl mj_c103 (mj_Sp d) (0 < d) P R) {x1 : Int32} {x2 : Int32} {M : mj_M} (h :
  ∃ (y_2 : Int32) (M_1 : mj_M), mj_Sp d 87 [mj_r (30, 60, 0), mj_i x1] M (some (mj_i y_2)) M_1 ∧
  (y_2 = 0 →
  R (some (mj_i (-(nI 1)))) M_1) ∧
  (¬ y_2 = 0 →
  ∃ (y_4 : Int32) (M_3 : mj_M), mj_Sp d 86 [mj_l x2.toInt64, mj_l (lN 1), mj_l (lN 999)] M_1 (some (mj_i y_4)) M_3 ∧
    (¬ y_4 = 0 →
    ∃ (y_6 : Int32) (M_5 : mj_M), mj_Sp d 89 [mj_r (30, 60, 0), mj_i x1] M_3 (some (mj_i y_6)) M_5 ∧
      (y_6 = 0 →
      R (some (mj_i (-(nI 2)))) M_5) ∧
      (¬ y_6 = 0 →
      vp_in ((nI 6) + x1) 76 ∧ (x2 < (mj_rd M_5 (14, 61, 0) ((nI 6) + x1).toNatClampNeg) →
        (¬ (M_5 14 0 0 0) = (nI 6) →
          vp_in ((nI 6) + x1) 76 ∧ vp_in ((nI 6) + x1) 76 ∧ ∀ M_7 : mj_M, M_7 = mj_wr M_5 (14, 61, 0) ((nI 6) + x1).toNatClampNeg ((mj_rd M_5 (14, 61, 0) ((nI 6) + x1).toNatClampNeg) - x2) → vp_in ((nI 12) + x1) 76 ∧ vp_in ((nI 0) + x1) 76 ∧ ∃ (y_9 : Int32) (M_8 : mj_M), mj_Sp d 90 [mj_r (30, 60, 0), mj_i (mj_rd M_7 (14, 61, 0) ((nI 12) + x1).toNatClampNeg), mj_i (mj_rd M_7 (14, 61, 0) ((nI 0) + x1).toNatClampNeg), mj_i x2] M_7 (some (mj_i y_9)) M_8 ∧
            R (some (mj_i y_9)) M_8) ∧
          (¬ ¬ (M_5 14 0 0 0) = (nI 6) →
          R (some (mj_i (-(nI 3)))) M_5)) ∧
        (¬ x2 < (mj_rd M_5 (14, 61, 0) ((nI 6) + x1).toNatClampNeg) →
        R (some (mj_i (-(nI 2)))) M_5))) ∧
    (¬ ¬ y_4 = 0 →
    R (some (mj_i (-(nI 1)))) M_3))) : P 0 [some (mj_r (30, 60, 0)), some (mj_i x1), some (mj_i x2)] [] M :=
  hP 0 _ _ _ ⟨rfl, Exists.elim h fun e1 g1 => Exists.elim g1 fun a1 b1 => ⟨e1, a1, b1.1, hP 5 _ _ _ ⟨fun c2 => hP 20 _ _ _ (b1.2.1 c2), fun c2 => ⟨rfl, Exists.elim (b1.2.2 c2) fun e3 g3 => Exists.elim g3 fun a3 b3 => ⟨e3, a3, b3.1, hP 17 _ _ _ ⟨fun c4 => hP 22 _ _ _ ⟨rfl, Exists.elim (b3.2.1 c4) fun e5 g5 => Exists.elim g5 fun a5 b5 => ⟨e5, a5, b5.1, hP 27 _ _ _ ⟨fun c6 => hP 43 _ _ _ (b5.2.1 c6), fun c6 => ⟨rfl, ⟨(b5.2.2 c6).1, ⟨fun c7 => hP 46 _ _ _ ⟨rfl, ⟨fun c8 => hP 58 _ _ _ ⟨rfl, ⟨(((b5.2.2 c6).2.1 c7).1 c8).1, ⟨rfl, ⟨(((b5.2.2 c6).2.1 c7).1 c8).2.1, ⟨rfl, ⟨((((b5.2.2 c6).2.1 c7).1 c8).2.2 _ rfl).1, ⟨rfl, ⟨((((b5.2.2 c6).2.1 c7).1 c8).2.2 _ rfl).2.1, ⟨rfl, Exists.elim (((((b5.2.2 c6).2.1 c7).1 c8).2.2 _ rfl).2.2) fun e9 g9 => Exists.elim g9 fun a9 b9 => ⟨e9, a9, b9.1, hP 93 _ _ _ b9.2⟩⟩⟩⟩⟩⟩⟩⟩⟩⟩, fun c8 => (((b5.2.2 c6).2.1 c7).2 c8)⟩⟩, fun c7 => hP 43 _ _ _ ((b5.2.2 c6).2.2 c7)⟩⟩⟩⟩⟩⟩, fun c4 => hP 20 _ _ _ (b3.2.2 c4)⟩⟩⟩⟩⟩⟩
theorem rg_m_salt_0 {d : Nat} {P : Nat → mj_L → List mj_V → mj_M → Prop} {R : Option mj_V → mj_M → Prop} (hP : mj_Cl mj_c104 (mj_Sp d) (0 < d) P R) {x1 : Int32} {M : mj_M} (h :
  ∃ (y_2 : Int32) (M_1 : mj_M), mj_Sp d 87 [mj_r (30, 60, 0), mj_i x1] M (some (mj_i y_2)) M_1 ∧
  (¬ y_2 = 0 →
  ∃ (y_4 : Int32) (M_3 : mj_M), mj_Sp d 89 [mj_r (30, 60, 0), mj_i x1] M_1 (some (mj_i y_4)) M_3 ∧
    (¬ y_4 = 0 →
    vp_in ((nI 12) + x1) 76 ∧ ∀ x2_5 : Int32, x2_5 = mj_rd M_3 (14, 61, 0) ((nI 12) + x1).toNatClampNeg → vp_in ((nI 12) + x1) 76 ∧ ∀ M_6 : mj_M, M_6 = mj_wr M_3 (14, 61, 0) ((nI 12) + x1).toNatClampNeg (nI 3) → R (some (mj_i x2_5)) M_6) ∧
    (¬ ¬ y_4 = 0 →
    R (some (mj_i (-(nI 2)))) M_3)) ∧
  (¬ ¬ y_2 = 0 →
  R (some (mj_i (-(nI 1)))) M_1)) : P 0 [some (mj_r (30, 60, 0)), some (mj_i x1), none] [] M :=
  hP 0 _ _ _ ⟨rfl, Exists.elim h fun e1 g1 => Exists.elim g1 fun a1 b1 => ⟨e1, a1, b1.1, hP 5 _ _ _ ⟨fun c2 => hP 10 _ _ _ ⟨rfl, Exists.elim (b1.2.1 c2) fun e3 g3 => Exists.elim g3 fun a3 b3 => ⟨e3, a3, b3.1, hP 15 _ _ _ ⟨fun c4 => hP 21 _ _ _ ⟨rfl, ⟨(b3.2.1 c4).1, ⟨rfl, ⟨rfl, ⟨rfl, ⟨((b3.2.1 c4).2 _ rfl).1, (((b3.2.1 c4).2 _ rfl).2 _ rfl)⟩⟩⟩⟩⟩⟩, fun c4 => (b3.2.2 c4)⟩⟩⟩, fun c2 => (b1.2.2 c2)⟩⟩⟩
theorem rg_m_type_0 {d : Nat} {P : Nat → mj_L → List mj_V → mj_M → Prop} {R : Option mj_V → mj_M → Prop} (hP : mj_Cl mj_c105 (mj_Sp d) (0 < d) P R) {w1 : Int64} {x3 : Int32} {M : mj_M} (h :
  ∃ (y_2 : Int32) (M_1 : mj_M), mj_Sp d 86 [mj_l x3.toInt64, mj_l (lN 1), mj_l (lN 8)] M (some (mj_i y_2)) M_1 ∧
  (¬ y_2 = 0 →
  P 17 [some (mj_r (30, 60, 0)), some (mj_l w1), none, some (mj_i x3), some (mj_i (nI 0))] [] M_1) ∧
  (¬ ¬ y_2 = 0 →
  R (some (mj_i (-(nI 1)))) M_1)) : P 0 [some (mj_r (30, 60, 0)), some (mj_l w1), none, some (mj_i x3), none] [] M :=
  hP 0 _ _ _ ⟨rfl, Exists.elim h fun e1 g1 => Exists.elim g1 fun a1 b1 => ⟨e1, a1, b1.1, hP 9 _ _ _ ⟨fun c2 => hP 14 _ _ _ ⟨rfl, (b1.2.1 c2)⟩, fun c2 => (b1.2.2 c2)⟩⟩⟩
theorem rg_m_type_17 {d : Nat} {P : Nat → mj_L → List mj_V → mj_M → Prop} {R : Option mj_V → mj_M → Prop} (hP : mj_Cl mj_c105 (mj_Sp d) (0 < d) P R) {w1 : Int64} {x3 : Int32} {x4 : Int32} {M : mj_M} (h :
  (x3 ≤ x4 →
  (((M 32 63 0 0) + x3) ≤ (nI 48) →
    ∀ x4_1 : Int32, x4_1 = x3 - (nI 1) → P 73 [some (mj_r (30, 60, 0)), some (mj_l w1), none, some (mj_i x3), some (mj_i x4_1)] [] M) ∧
    (¬ ((M 32 63 0 0) + x3) ≤ (nI 48) →
    R (some (mj_i (-(nI 3)))) M)) ∧
  (¬ x3 ≤ x4 →
  ∃ (y_3 : Int32) (M_2 : mj_M), mj_Sp d 86 [mj_l ((w1 >>> (((nI 8) * x4).toInt64 &&& 63)) &&& (lN 255)), mj_l (lN 32), mj_l (lN 126)] M (some (mj_i y_3)) M_2 ∧
    (¬ y_3 = 0 →
    ∀ x4_4 : Int32, x4_4 = x4 + (nI 1) → P 17 [some (mj_r (30, 60, 0)), some (mj_l w1), none, some (mj_i x3), some (mj_i x4_4)] [] M_2) ∧
    (¬ ¬ y_3 = 0 →
    R (some (mj_i (-(nI 1)))) M_2))) : P 17 [some (mj_r (30, 60, 0)), some (mj_l w1), none, some (mj_i x3), some (mj_i x4)] [] M :=
  hP 17 _ _ _ ⟨fun c1 => hP 54 _ _ _ ⟨rfl, ⟨fun c2 => hP 68 _ _ _ ⟨rfl, (((h.1 c1).1 c2) _ rfl)⟩, fun c2 => ((h.1 c1).2 c2)⟩⟩, fun c1 => ⟨rfl, Exists.elim (h.2 c1) fun e3 g3 => Exists.elim g3 fun a3 b3 => ⟨e3, a3, b3.1, hP 43 _ _ _ ⟨fun c4 => hP 48 _ _ _ ⟨rfl, ((b3.2.1 c4) _ rfl)⟩, fun c4 => (b3.2.2 c4)⟩⟩⟩⟩
theorem rg_m_type_73 {d : Nat} {P : Nat → mj_L → List mj_V → mj_M → Prop} {R : Option mj_V → mj_M → Prop} (hP : mj_Cl mj_c105 (mj_Sp d) (0 < d) P R) {w1 : Int64} {x3 : Int32} {x4 : Int32} {M : mj_M} (h :
  (x4 < 0 →
  R (some (mj_i (M 32 63 0 0))) M) ∧
  (¬ x4 < 0 →
  vp_in (M 32 63 0 0) 48 ∧ ∀ M_1 : mj_M, M_1 = mj_wl M (32, 64, 0, (M 32 63 0 0).toNatClampNeg) (((w1 >>> (((nI 8) * x4).toInt64 &&& 63)) &&& (lN 255)).toInt32) → ∀ M_2 : mj_M, M_2 = mj_wl M_1 (32, 63, 0, 0) ((M_1 32 63 0 0) + (nI 1)) → ∀ x4_3 : Int32, x4_3 = x4 + (-(nI 1)) → P 73 [some (mj_r (30, 60, 0)), some (mj_l w1), none, some (mj_i x3), some (mj_i x4_3)] [] M_2)) : P 73 [some (mj_r (30, 60, 0)), some (mj_l w1), none, some (mj_i x3), some (mj_i x4)] [] M :=
  hP 73 _ _ _ ⟨fun c1 => hP 115 _ _ _ ⟨rfl, (h.1 c1)⟩, fun c1 => ⟨rfl, ⟨rfl, ⟨rfl, ⟨(h.2 c1).1, ⟨rfl, ⟨rfl, ⟨rfl, ((((h.2 c1).2 _ rfl) _ rfl) _ rfl)⟩⟩⟩⟩⟩⟩⟩⟩
theorem rg_m_here_0 {d : Nat} {P : Nat → mj_L → List mj_V → mj_M → Prop} {R : Option mj_V → mj_M → Prop} (hP : mj_Cl mj_c106 (mj_Sp d) (0 < d) P R)  {M : mj_M} (h :
  ((M 32 63 0 0) ≤ (M 33 63 0 0) →
  ((M 32 63 0 0) ≤ (M 33 63 0 0) →
    R (some (mj_i (nI 0))) M) ∧
    (¬ (M 32 63 0 0) ≤ (M 33 63 0 0) →
    vp_in (M 33 63 0 0) 48 ∧ R (some (mj_i (M 32 64 0 (M 33 63 0 0).toNatClampNeg))) M)) ∧
  (¬ (M 32 63 0 0) ≤ (M 33 63 0 0) →
  vp_in (M 33 63 0 0) 48 ∧ (¬ (M 32 64 0 (M 33 63 0 0).toNatClampNeg) = (nI 32) →
    ((M 32 63 0 0) ≤ (M 33 63 0 0) →
      R (some (mj_i (nI 0))) M) ∧
      (¬ (M 32 63 0 0) ≤ (M 33 63 0 0) →
      vp_in (M 33 63 0 0) 48 ∧ R (some (mj_i (M 32 64 0 (M 33 63 0 0).toNatClampNeg))) M)) ∧
    (¬ ¬ (M 32 64 0 (M 33 63 0 0).toNatClampNeg) = (nI 32) →
    ∀ M_1 : mj_M, M_1 = mj_wl M (33, 63, 0, 0) ((M 33 63 0 0) + (nI 1)) → P 0 [some (mj_r (30, 60, 0))] [] M_1))) : P 0 [some (mj_r (30, 60, 0))] [] M :=
  hP 0 _ _ _ ⟨rfl, ⟨rfl, ⟨fun c1 => hP 38 _ _ _ ⟨rfl, ⟨rfl, ⟨fun c2 => hP 61 _ _ _ (hP 62 _ _ _ ((h.1 c1).1 c2)), fun c2 => ⟨rfl, ⟨rfl, ⟨((h.1 c1).2 c2).1, hP 62 _ _ _ (((h.1 c1).2 c2).2)⟩⟩⟩⟩⟩⟩, fun c1 => ⟨rfl, ⟨rfl, ⟨(h.2 c1).1, ⟨fun c3 => hP 38 _ _ _ ⟨rfl, ⟨rfl, ⟨fun c4 => hP 61 _ _ _ (hP 62 _ _ _ (((h.2 c1).2.1 c3).1 c4)), fun c4 => ⟨rfl, ⟨rfl, ⟨(((h.2 c1).2.1 c3).2 c4).1, hP 62 _ _ _ ((((h.2 c1).2.1 c3).2 c4).2)⟩⟩⟩⟩⟩⟩, fun c3 => ⟨rfl, ⟨rfl, (((h.2 c1).2.2 c3) _ rfl)⟩⟩⟩⟩⟩⟩⟩⟩⟩
theorem rg_m_sideOf_0 {d : Nat} {P : Nat → mj_L → List mj_V → mj_M → Prop} {R : Option mj_V → mj_M → Prop} (hP : mj_Cl mj_c107 (mj_Sp d) (0 < d) P R) {x0 : Int32} {M : mj_M} (h :
  (¬ x0 = (nI 117) →
  (¬ x0 = (nI 108) →
    (¬ x0 = (nI 114) →
      (¬ x0 = (nI 100) →
        R (some (mj_i (-(nI 4)))) M) ∧
        (¬ ¬ x0 = (nI 100) →
        R (some (mj_i (nI 3))) M)) ∧
      (¬ ¬ x0 = (nI 114) →
      R (some (mj_i (nI 2))) M)) ∧
    (¬ ¬ x0 = (nI 108) →
    R (some (mj_i (nI 1))) M)) ∧
  (¬ ¬ x0 = (nI 117) →
  R (some (mj_i (nI 0))) M)) : P 0 [some (mj_i x0)] [] M :=
  hP 0 _ _ _ ⟨fun c1 => hP 10 _ _ _ ⟨fun c2 => hP 20 _ _ _ ⟨fun c3 => hP 30 _ _ _ ⟨fun c4 => hP 40 _ _ _ (hP 42 _ _ _ ((((h.1 c1).1 c2).1 c3).1 c4)), fun c4 => hP 42 _ _ _ ((((h.1 c1).1 c2).1 c3).2 c4)⟩, fun c3 => hP 42 _ _ _ (((h.1 c1).1 c2).2 c3)⟩, fun c2 => hP 42 _ _ _ ((h.1 c1).2 c2)⟩, fun c1 => hP 42 _ _ _ (h.2 c1)⟩
theorem rg_m_readWind_0 {d : Nat} {P : Nat → mj_L → List mj_V → mj_M → Prop} {R : Option mj_V → mj_M → Prop} (hP : mj_Cl mj_c108 (mj_Sp d) (0 < d) P R) {x1 : Int32} {M : mj_M} (h :
  ∃ (y_2 : Int32) (M_1 : mj_M), mj_Sp d 106 [mj_r (30, 60, 0)] M (some (mj_i y_2)) M_1 ∧
  ∃ (y_4 : Int32) (M_3 : mj_M), mj_Sp d 107 [mj_i y_2] M_1 (some (mj_i y_4)) M_3 ∧
  vp_in ((nI 2) * x1) 24 ∧ ∀ M_5 : mj_M, M_5 = mj_wl M_3 (33, 65, 0, ((nI 2) * x1).toNatClampNeg) y_4 → vp_in ((nI 2) * x1) 24 ∧ (0 ≤ (M_5 33 65 0 ((nI 2) * x1).toNatClampNeg) →
  ∀ M_6 : mj_M, M_6 = mj_wl M_5 (33, 63, 0, 1) (nI 0) → ((M_6 33 63 0 1) = 0 →
    ∀ M_7 : mj_M, M_7 = mj_wl M_6 (33, 63, 0, 0) ((M_6 33 63 0 0) + (nI 1)) → (¬ (M_7 33 63 0 1) = 0 →
      R none M_7) ∧
      (¬ ¬ (M_7 33 63 0 1) = 0 →
      ∃ (y_9 : Int32) (M_8 : mj_M), mj_Sp d 106 [mj_r (30, 60, 0)] M_7 (some (mj_i y_9)) M_8 ∧
        vp_in (((nI 2) * x1) + (nI 1)) 24 ∧ ∀ M_10 : mj_M, M_10 = mj_wl M_8 (33, 65, 0, (((nI 2) * x1) + (nI 1)).toNatClampNeg) (y_9 - (nI 48)) → vp_in (((nI 2) * x1) + (nI 1)) 24 ∧ ∃ (y_12 : Int32) (M_11 : mj_M), mj_Sp d 86 [mj_l ((M_10 33 65 0 (((nI 2) * x1) + (nI 1)).toNatClampNeg).toInt64), mj_l (lN 0), mj_l (lN 3)] M_10 (some (mj_i y_12)) M_11 ∧
        (¬ y_12 = 0 →
        ∀ M_13 : mj_M, M_13 = mj_wl M_11 (33, 63, 0, 1) (nI 0) → ((M_13 33 63 0 1) = 0 →
          ∀ M_14 : mj_M, M_14 = mj_wl M_13 (33, 63, 0, 0) ((M_13 33 63 0 0) + (nI 1)) → R none M_14) ∧
          (¬ (M_13 33 63 0 1) = 0 →
          ∀ M_15 : mj_M, M_15 = mj_wl M_13 (33, 63, 0, 0) ((M_13 33 63 0 0) + (nI 0)) → R none M_15)) ∧
        (¬ ¬ y_12 = 0 →
        ∀ M_16 : mj_M, M_16 = mj_wl M_11 (33, 63, 0, 1) (nI 1) → ((M_16 33 63 0 1) = 0 →
          ∀ M_17 : mj_M, M_17 = mj_wl M_16 (33, 63, 0, 0) ((M_16 33 63 0 0) + (nI 1)) → R none M_17) ∧
          (¬ (M_16 33 63 0 1) = 0 →
          ∀ M_18 : mj_M, M_18 = mj_wl M_16 (33, 63, 0, 0) ((M_16 33 63 0 0) + (nI 0)) → R none M_18)))) ∧
    (¬ (M_6 33 63 0 1) = 0 →
    ∀ M_19 : mj_M, M_19 = mj_wl M_6 (33, 63, 0, 0) ((M_6 33 63 0 0) + (nI 0)) → (¬ (M_19 33 63 0 1) = 0 →
      R none M_19) ∧
      (¬ ¬ (M_19 33 63 0 1) = 0 →
      ∃ (y_21 : Int32) (M_20 : mj_M), mj_Sp d 106 [mj_r (30, 60, 0)] M_19 (some (mj_i y_21)) M_20 ∧
        vp_in (((nI 2) * x1) + (nI 1)) 24 ∧ ∀ M_22 : mj_M, M_22 = mj_wl M_20 (33, 65, 0, (((nI 2) * x1) + (nI 1)).toNatClampNeg) (y_21 - (nI 48)) → vp_in (((nI 2) * x1) + (nI 1)) 24 ∧ ∃ (y_24 : Int32) (M_23 : mj_M), mj_Sp d 86 [mj_l ((M_22 33 65 0 (((nI 2) * x1) + (nI 1)).toNatClampNeg).toInt64), mj_l (lN 0), mj_l (lN 3)] M_22 (some (mj_i y_24)) M_23 ∧
        (¬ y_24 = 0 →
        ∀ M_25 : mj_M, M_25 = mj_wl M_23 (33, 63, 0, 1) (nI 0) → ((M_25 33 63 0 1) = 0 →
          ∀ M_26 : mj_M, M_26 = mj_wl M_25 (33, 63, 0, 0) ((M_25 33 63 0 0) + (nI 1)) → R none M_26) ∧
          (¬ (M_25 33 63 0 1) = 0 →
          ∀ M_27 : mj_M, M_27 = mj_wl M_25 (33, 63, 0, 0) ((M_25 33 63 0 0) + (nI 0)) → R none M_27)) ∧
        (¬ ¬ y_24 = 0 →
        ∀ M_28 : mj_M, M_28 = mj_wl M_23 (33, 63, 0, 1) (nI 1) → ((M_28 33 63 0 1) = 0 →
          ∀ M_29 : mj_M, M_29 = mj_wl M_28 (33, 63, 0, 0) ((M_28 33 63 0 0) + (nI 1)) → R none M_29) ∧
          (¬ (M_28 33 63 0 1) = 0 →
          ∀ M_30 : mj_M, M_30 = mj_wl M_28 (33, 63, 0, 0) ((M_28 33 63 0 0) + (nI 0)) → R none M_30))))) ∧
  (¬ 0 ≤ (M_5 33 65 0 ((nI 2) * x1).toNatClampNeg) →
  ∀ M_31 : mj_M, M_31 = mj_wl M_5 (33, 63, 0, 1) (nI 1) → ((M_31 33 63 0 1) = 0 →
    ∀ M_32 : mj_M, M_32 = mj_wl M_31 (33, 63, 0, 0) ((M_31 33 63 0 0) + (nI 1)) → (¬ (M_32 33 63 0 1) = 0 →
      R none M_32) ∧
      (¬ ¬ (M_32 33 63 0 1) = 0 →
      ∃ (y_34 : Int32) (M_33 : mj_M), mj_Sp d 106 [mj_r (30, 60, 0)] M_32 (some (mj_i y_34)) M_33 ∧
        vp_in (((nI 2) * x1) + (nI 1)) 24 ∧ ∀ M_35 : mj_M, M_35 = mj_wl M_33 (33, 65, 0, (((nI 2) * x1) + (nI 1)).toNatClampNeg) (y_34 - (nI 48)) → vp_in (((nI 2) * x1) + (nI 1)) 24 ∧ ∃ (y_37 : Int32) (M_36 : mj_M), mj_Sp d 86 [mj_l ((M_35 33 65 0 (((nI 2) * x1) + (nI 1)).toNatClampNeg).toInt64), mj_l (lN 0), mj_l (lN 3)] M_35 (some (mj_i y_37)) M_36 ∧
        (¬ y_37 = 0 →
        ∀ M_38 : mj_M, M_38 = mj_wl M_36 (33, 63, 0, 1) (nI 0) → ((M_38 33 63 0 1) = 0 →
          ∀ M_39 : mj_M, M_39 = mj_wl M_38 (33, 63, 0, 0) ((M_38 33 63 0 0) + (nI 1)) → R none M_39) ∧
          (¬ (M_38 33 63 0 1) = 0 →
          ∀ M_40 : mj_M, M_40 = mj_wl M_38 (33, 63, 0, 0) ((M_38 33 63 0 0) + (nI 0)) → R none M_40)) ∧
        (¬ ¬ y_37 = 0 →
        ∀ M_41 : mj_M, M_41 = mj_wl M_36 (33, 63, 0, 1) (nI 1) → ((M_41 33 63 0 1) = 0 →
          ∀ M_42 : mj_M, M_42 = mj_wl M_41 (33, 63, 0, 0) ((M_41 33 63 0 0) + (nI 1)) → R none M_42) ∧
          (¬ (M_41 33 63 0 1) = 0 →
          ∀ M_43 : mj_M, M_43 = mj_wl M_41 (33, 63, 0, 0) ((M_41 33 63 0 0) + (nI 0)) → R none M_43)))) ∧
    (¬ (M_31 33 63 0 1) = 0 →
    ∀ M_44 : mj_M, M_44 = mj_wl M_31 (33, 63, 0, 0) ((M_31 33 63 0 0) + (nI 0)) → (¬ (M_44 33 63 0 1) = 0 →
      R none M_44) ∧
      (¬ ¬ (M_44 33 63 0 1) = 0 →
      ∃ (y_46 : Int32) (M_45 : mj_M), mj_Sp d 106 [mj_r (30, 60, 0)] M_44 (some (mj_i y_46)) M_45 ∧
        vp_in (((nI 2) * x1) + (nI 1)) 24 ∧ ∀ M_47 : mj_M, M_47 = mj_wl M_45 (33, 65, 0, (((nI 2) * x1) + (nI 1)).toNatClampNeg) (y_46 - (nI 48)) → vp_in (((nI 2) * x1) + (nI 1)) 24 ∧ ∃ (y_49 : Int32) (M_48 : mj_M), mj_Sp d 86 [mj_l ((M_47 33 65 0 (((nI 2) * x1) + (nI 1)).toNatClampNeg).toInt64), mj_l (lN 0), mj_l (lN 3)] M_47 (some (mj_i y_49)) M_48 ∧
        (¬ y_49 = 0 →
        ∀ M_50 : mj_M, M_50 = mj_wl M_48 (33, 63, 0, 1) (nI 0) → ((M_50 33 63 0 1) = 0 →
          ∀ M_51 : mj_M, M_51 = mj_wl M_50 (33, 63, 0, 0) ((M_50 33 63 0 0) + (nI 1)) → R none M_51) ∧
          (¬ (M_50 33 63 0 1) = 0 →
          ∀ M_52 : mj_M, M_52 = mj_wl M_50 (33, 63, 0, 0) ((M_50 33 63 0 0) + (nI 0)) → R none M_52)) ∧
        (¬ ¬ y_49 = 0 →
        ∀ M_53 : mj_M, M_53 = mj_wl M_48 (33, 63, 0, 1) (nI 1) → ((M_53 33 63 0 1) = 0 →
          ∀ M_54 : mj_M, M_54 = mj_wl M_53 (33, 63, 0, 0) ((M_53 33 63 0 0) + (nI 1)) → R none M_54) ∧
          (¬ (M_53 33 63 0 1) = 0 →
          ∀ M_55 : mj_M, M_55 = mj_wl M_53 (33, 63, 0, 0) ((M_53 33 63 0 0) + (nI 0)) → R none M_55)))))) : P 0 [some (mj_r (30, 60, 0)), some (mj_i x1)] [] M :=
  hP 0 _ _ _ ⟨rfl, ⟨rfl, Exists.elim h fun e1 g1 => Exists.elim g1 fun a1 b1 => ⟨e1, a1, b1.1, hP 11 _ _ _ ⟨rfl, Exists.elim b1.2 fun e2 g2 => Exists.elim g2 fun a2 b2 => ⟨e2, a2, b2.1, hP 14 _ _ _ ⟨rfl, ⟨b2.2.1, ⟨rfl, ⟨(b2.2.2 _ rfl).1, ⟨fun c3 => hP 31 _ _ _ (hP 32 _ _ _ ⟨rfl, ⟨(Or.inl rfl), ⟨rfl, ⟨rfl, ⟨fun c4 => hP 51 _ _ _ (hP 52 _ _ _ ⟨rfl, ⟨rfl, ⟨fun c5 => hP 131 _ _ _ ((((((b2.2.2 _ rfl).2.1 c3) _ rfl).1 c4) _ rfl).1 c5), fun c5 => ⟨rfl, ⟨rfl, Exists.elim ((((((b2.2.2 _ rfl).2.1 c3) _ rfl).1 c4) _ rfl).2 c5) fun e6 g6 => Exists.elim g6 fun a6 b6 => ⟨e6, a6, b6.1, hP 76 _ _ _ ⟨rfl, ⟨b6.2.1, ⟨rfl, ⟨(b6.2.2 _ rfl).1, ⟨rfl, Exists.elim ((b6.2.2 _ rfl).2) fun e7 g7 => Exists.elim g7 fun a7 b7 => ⟨e7, a7, b7.1, hP 99 _ _ _ ⟨fun c8 => hP 106 _ _ _ (hP 107 _ _ _ ⟨rfl, ⟨(Or.inl rfl), ⟨rfl, ⟨rfl, ⟨fun c9 => hP 126 _ _ _ (hP 127 _ _ _ ⟨rfl, hP 131 _ _ _ ((((b7.2.1 c8) _ rfl).1 c9) _ rfl)⟩), fun c9 => hP 127 _ _ _ ⟨rfl, hP 131 _ _ _ ((((b7.2.1 c8) _ rfl).2 c9) _ rfl)⟩⟩⟩⟩⟩⟩), fun c8 => hP 107 _ _ _ ⟨rfl, ⟨(Or.inr rfl), ⟨rfl, ⟨rfl, ⟨fun c10 => hP 126 _ _ _ (hP 127 _ _ _ ⟨rfl, hP 131 _ _ _ ((((b7.2.2 c8) _ rfl).1 c10) _ rfl)⟩), fun c10 => hP 127 _ _ _ ⟨rfl, hP 131 _ _ _ ((((b7.2.2 c8) _ rfl).2 c10) _ rfl)⟩⟩⟩⟩⟩⟩⟩⟩⟩⟩⟩⟩⟩⟩⟩⟩⟩⟩⟩), fun c4 => hP 52 _ _ _ ⟨rfl, ⟨rfl, ⟨fun c11 => hP 131 _ _ _ ((((((b2.2.2 _ rfl).2.1 c3) _ rfl).2 c4) _ rfl).1 c11), fun c11 => ⟨rfl, ⟨rfl, Exists.elim ((((((b2.2.2 _ rfl).2.1 c3) _ rfl).2 c4) _ rfl).2 c11) fun e12 g12 => Exists.elim g12 fun a12 b12 => ⟨e12, a12, b12.1, hP 76 _ _ _ ⟨rfl, ⟨b12.2.1, ⟨rfl, ⟨(b12.2.2 _ rfl).1, ⟨rfl, Exists.elim ((b12.2.2 _ rfl).2) fun e13 g13 => Exists.elim g13 fun a13 b13 => ⟨e13, a13, b13.1, hP 99 _ _ _ ⟨fun c14 => hP 106 _ _ _ (hP 107 _ _ _ ⟨rfl, ⟨(Or.inl rfl), ⟨rfl, ⟨rfl, ⟨fun c15 => hP 126 _ _ _ (hP 127 _ _ _ ⟨rfl, hP 131 _ _ _ ((((b13.2.1 c14) _ rfl).1 c15) _ rfl)⟩), fun c15 => hP 127 _ _ _ ⟨rfl, hP 131 _ _ _ ((((b13.2.1 c14) _ rfl).2 c15) _ rfl)⟩⟩⟩⟩⟩⟩), fun c14 => hP 107 _ _ _ ⟨rfl, ⟨(Or.inr rfl), ⟨rfl, ⟨rfl, ⟨fun c16 => hP 126 _ _ _ (hP 127 _ _ _ ⟨rfl, hP 131 _ _ _ ((((b13.2.2 c14) _ rfl).1 c16) _ rfl)⟩), fun c16 => hP 127 _ _ _ ⟨rfl, hP 131 _ _ _ ((((b13.2.2 c14) _ rfl).2 c16) _ rfl)⟩⟩⟩⟩⟩⟩⟩⟩⟩⟩⟩⟩⟩⟩⟩⟩⟩⟩⟩⟩⟩⟩⟩⟩), fun c3 => hP 32 _ _ _ ⟨rfl, ⟨(Or.inr rfl), ⟨rfl, ⟨rfl, ⟨fun c17 => hP 51 _ _ _ (hP 52 _ _ _ ⟨rfl, ⟨rfl, ⟨fun c18 => hP 131 _ _ _ ((((((b2.2.2 _ rfl).2.2 c3) _ rfl).1 c17) _ rfl).1 c18), fun c18 => ⟨rfl, ⟨rfl, Exists.elim ((((((b2.2.2 _ rfl).2.2 c3) _ rfl).1 c17) _ rfl).2 c18) fun e19 g19 => Exists.elim g19 fun a19 b19 => ⟨e19, a19, b19.1, hP 76 _ _ _ ⟨rfl, ⟨b19.2.1, ⟨rfl, ⟨(b19.2.2 _ rfl).1, ⟨rfl, Exists.elim ((b19.2.2 _ rfl).2) fun e20 g20 => Exists.elim g20 fun a20 b20 => ⟨e20, a20, b20.1, hP 99 _ _ _ ⟨fun c21 => hP 106 _ _ _ (hP 107 _ _ _ ⟨rfl, ⟨(Or.inl rfl), ⟨rfl, ⟨rfl, ⟨fun c22 => hP 126 _ _ _ (hP 127 _ _ _ ⟨rfl, hP 131 _ _ _ ((((b20.2.1 c21) _ rfl).1 c22) _ rfl)⟩), fun c22 => hP 127 _ _ _ ⟨rfl, hP 131 _ _ _ ((((b20.2.1 c21) _ rfl).2 c22) _ rfl)⟩⟩⟩⟩⟩⟩), fun c21 => hP 107 _ _ _ ⟨rfl, ⟨(Or.inr rfl), ⟨rfl, ⟨rfl, ⟨fun c23 => hP 126 _ _ _ (hP 127 _ _ _ ⟨rfl, hP 131 _ _ _ ((((b20.2.2 c21) _ rfl).1 c23) _ rfl)⟩), fun c23 => hP 127 _ _ _ ⟨rfl, hP 131 _ _ _ ((((b20.2.2 c21) _ rfl).2 c23) _ rfl)⟩⟩⟩⟩⟩⟩⟩⟩⟩⟩⟩⟩⟩⟩⟩⟩⟩⟩⟩), fun c17 => hP 52 _ _ _ ⟨rfl, ⟨rfl, ⟨fun c24 => hP 131 _ _ _ ((((((b2.2.2 _ rfl).2.2 c3) _ rfl).2 c17) _ rfl).1 c24), fun c24 => ⟨rfl, ⟨rfl, Exists.elim ((((((b2.2.2 _ rfl).2.2 c3) _ rfl).2 c17) _ rfl).2 c24) fun e25 g25 => Exists.elim g25 fun a25 b25 => ⟨e25, a25, b25.1, hP 76 _ _ _ ⟨rfl, ⟨b25.2.1, ⟨rfl, ⟨(b25.2.2 _ rfl).1, ⟨rfl, Exists.elim ((b25.2.2 _ rfl).2) fun e26 g26 => Exists.elim g26 fun a26 b26 => ⟨e26, a26, b26.1, hP 99 _ _ _ ⟨fun c27 => hP 106 _ _ _ (hP 107 _ _ _ ⟨rfl, ⟨(Or.inl rfl), ⟨rfl, ⟨rfl, ⟨fun c28 => hP 126 _ _ _ (hP 127 _ _ _ ⟨rfl, hP 131 _ _ _ ((((b26.2.1 c27) _ rfl).1 c28) _ rfl)⟩), fun c28 => hP 127 _ _ _ ⟨rfl, hP 131 _ _ _ ((((b26.2.1 c27) _ rfl).2 c28) _ rfl)⟩⟩⟩⟩⟩⟩), fun c27 => hP 107 _ _ _ ⟨rfl, ⟨(Or.inr rfl), ⟨rfl, ⟨rfl, ⟨fun c29 => hP 126 _ _ _ (hP 127 _ _ _ ⟨rfl, hP 131 _ _ _ ((((b26.2.2 c27) _ rfl).1 c29) _ rfl)⟩), fun c29 => hP 127 _ _ _ ⟨rfl, hP 131 _ _ _ ((((b26.2.2 c27) _ rfl).2 c29) _ rfl)⟩⟩⟩⟩⟩⟩⟩⟩⟩⟩⟩⟩⟩⟩⟩⟩⟩⟩⟩⟩⟩⟩⟩⟩⟩⟩⟩⟩⟩⟩⟩⟩⟩⟩
theorem rg_m_winds_0 {d : Nat} {P : Nat → mj_L → List mj_V → mj_M → Prop} {R : Option mj_V → mj_M → Prop} (hP : mj_Cl mj_c109 (mj_Sp d) (0 < d) P R)  {M : mj_M} (h :
  ∀ M_1 : mj_M, M_1 = mj_wl M (33, 63, 0, 0) (nI 0) → ∀ M_2 : mj_M, M_2 = mj_wl M_1 (33, 63, 0, 1) (nI 0) → P 14 [some (mj_r (30, 60, 0)), some (mj_i (nI 0)), some (mj_i (nI 1)), none] [] M_2) : P 0 [some (mj_r (30, 60, 0)), none, none, none] [] M :=
  hP 0 _ _ _ ⟨rfl, ⟨rfl, ⟨(Or.inl rfl), ⟨rfl, ⟨rfl, ((h _ rfl) _ rfl)⟩⟩⟩⟩⟩
theorem rg_m_winds_14 {d : Nat} {P : Nat → mj_L → List mj_V → mj_M → Prop} {R : Option mj_V → mj_M → Prop} (hP : mj_Cl mj_c109 (mj_Sp d) (0 < d) P R) {x1 : Int32} {x2 : Int32} {M : mj_M} (h :
  (x2 = 0 →
  (¬ (M 33 63 0 1) = 0 →
    ∀ M_1 : mj_M, M_1 = mj_wl M (33, 63, 0, 1) (nI 1) → ∀ M_2 : mj_M, M_2 = mj_wl M_1 (32, 63, 0, 0) (nI 0) → ((M_2 33 63 0 1) = 0 →
      ∀ M_3 : mj_M, M_3 = mj_wl M_2 (34, 10, 0, 0) x1 → P 125 [some (mj_r (30, 60, 0)), some (mj_i x1), some (mj_i x2), some (mj_i (nI 0))] [] M_3) ∧
      (¬ (M_2 33 63 0 1) = 0 →
      R (some (mj_i ((-(nI 20)) - (M_2 33 63 0 0)))) M_2)) ∧
    (¬ ¬ (M 33 63 0 1) = 0 →
    ∃ (y_5 : Int32) (M_4 : mj_M), mj_Sp d 106 [mj_r (30, 60, 0)] M (some (mj_i y_5)) M_4 ∧
      (y_5 = 0 →
      ∀ M_6 : mj_M, M_6 = mj_wl M_4 (33, 63, 0, 1) (nI 0) → ∀ M_7 : mj_M, M_7 = mj_wl M_6 (32, 63, 0, 0) (nI 0) → ((M_7 33 63 0 1) = 0 →
        ∀ M_8 : mj_M, M_8 = mj_wl M_7 (34, 10, 0, 0) x1 → P 125 [some (mj_r (30, 60, 0)), some (mj_i x1), some (mj_i x2), some (mj_i (nI 0))] [] M_8) ∧
        (¬ (M_7 33 63 0 1) = 0 →
        R (some (mj_i ((-(nI 20)) - (M_7 33 63 0 0)))) M_7)) ∧
      (¬ y_5 = 0 →
      ∀ M_9 : mj_M, M_9 = mj_wl M_4 (33, 63, 0, 1) (nI 1) → ∀ M_10 : mj_M, M_10 = mj_wl M_9 (32, 63, 0, 0) (nI 0) → ((M_10 33 63 0 1) = 0 →
        ∀ M_11 : mj_M, M_11 = mj_wl M_10 (34, 10, 0, 0) x1 → P 125 [some (mj_r (30, 60, 0)), some (mj_i x1), some (mj_i x2), some (mj_i (nI 0))] [] M_11) ∧
        (¬ (M_10 33 63 0 1) = 0 →
        R (some (mj_i ((-(nI 20)) - (M_10 33 63 0 0)))) M_10)))) ∧
  (¬ x2 = 0 →
  ∃ M_12 : mj_M, mj_Sp d 108 [mj_r (30, 60, 0), mj_i x1] M none M_12 ∧
    ∀ x1_13 : Int32, x1_13 = x1 + (nI 1) → (¬ (M_12 33 63 0 1) = 0 →
    ((nI 0) = 0 →
      ∀ M_14 : mj_M, M_14 = mj_wl M_12 (33, 63, 0, 0) ((M_12 33 63 0 0) + (nI 0)) → P 14 [some (mj_r (30, 60, 0)), some (mj_i x1_13), some (mj_i (nI 0)), none] [] M_14) ∧
      (¬ (nI 0) = 0 →
      ∀ M_15 : mj_M, M_15 = mj_wl M_12 (33, 63, 0, 0) ((M_12 33 63 0 0) + (nI 1)) → P 14 [some (mj_r (30, 60, 0)), some (mj_i x1_13), some (mj_i (nI 0)), none] [] M_15)) ∧
    (¬ ¬ (M_12 33 63 0 1) = 0 →
    ((nI 12) ≤ x1_13 →
      ((nI 0) = 0 →
        ∀ M_16 : mj_M, M_16 = mj_wl M_12 (33, 63, 0, 0) ((M_12 33 63 0 0) + (nI 0)) → P 14 [some (mj_r (30, 60, 0)), some (mj_i x1_13), some (mj_i (nI 0)), none] [] M_16) ∧
        (¬ (nI 0) = 0 →
        ∀ M_17 : mj_M, M_17 = mj_wl M_12 (33, 63, 0, 0) ((M_12 33 63 0 0) + (nI 1)) → P 14 [some (mj_r (30, 60, 0)), some (mj_i x1_13), some (mj_i (nI 0)), none] [] M_17)) ∧
      (¬ (nI 12) ≤ x1_13 →
      ∃ (y_19 : Int32) (M_18 : mj_M), mj_Sp d 106 [mj_r (30, 60, 0)] M_12 (some (mj_i y_19)) M_18 ∧
        (¬ y_19 = (nI 44) →
        ((nI 0) = 0 →
          ∀ M_20 : mj_M, M_20 = mj_wl M_18 (33, 63, 0, 0) ((M_18 33 63 0 0) + (nI 0)) → P 14 [some (mj_r (30, 60, 0)), some (mj_i x1_13), some (mj_i (nI 0)), none] [] M_20) ∧
          (¬ (nI 0) = 0 →
          ∀ M_21 : mj_M, M_21 = mj_wl M_18 (33, 63, 0, 0) ((M_18 33 63 0 0) + (nI 1)) → P 14 [some (mj_r (30, 60, 0)), some (mj_i x1_13), some (mj_i (nI 0)), none] [] M_21)) ∧
        (¬ ¬ y_19 = (nI 44) →
        ((nI 1) = 0 →
          ∀ M_22 : mj_M, M_22 = mj_wl M_18 (33, 63, 0, 0) ((M_18 33 63 0 0) + (nI 0)) → P 14 [some (mj_r (30, 60, 0)), some (mj_i x1_13), some (mj_i (nI 1)), none] [] M_22) ∧
          (¬ (nI 1) = 0 →
          ∀ M_23 : mj_M, M_23 = mj_wl M_18 (33, 63, 0, 0) ((M_18 33 63 0 0) + (nI 1)) → P 14 [some (mj_r (30, 60, 0)), some (mj_i x1_13), some (mj_i (nI 1)), none] [] M_23)))))) : P 14 [some (mj_r (30, 60, 0)), some (mj_i x1), some (mj_i x2), none] [] M :=
  hP 14 _ _ _ ⟨fun c1 => hP 75 _ _ _ ⟨rfl, ⟨fun c2 => hP 90 _ _ _ (hP 95 _ _ _ ⟨rfl, ⟨(Or.inr rfl), ⟨rfl, ⟨rfl, ⟨fun c3 => hP 118 _ _ _ ⟨rfl, ⟨rfl, ((((((h.1 c1).1 c2) _ rfl) _ rfl).1 c3) _ rfl)⟩⟩, fun c3 => ⟨rfl, (((((h.1 c1).1 c2) _ rfl) _ rfl).2 c3)⟩⟩⟩⟩⟩⟩), fun c2 => ⟨rfl, Exists.elim ((h.1 c1).2 c2) fun e4 g4 => Exists.elim g4 fun a4 b4 => ⟨e4, a4, b4.1, hP 87 _ _ _ ⟨fun c5 => hP 94 _ _ _ (hP 95 _ _ _ ⟨rfl, ⟨(Or.inl rfl), ⟨rfl, ⟨rfl, ⟨fun c6 => hP 118 _ _ _ ⟨rfl, ⟨rfl, (((((b4.2.1 c5) _ rfl) _ rfl).1 c6) _ rfl)⟩⟩, fun c6 => ⟨rfl, ((((b4.2.1 c5) _ rfl) _ rfl).2 c6)⟩⟩⟩⟩⟩⟩), fun c5 => hP 90 _ _ _ (hP 95 _ _ _ ⟨rfl, ⟨(Or.inr rfl), ⟨rfl, ⟨rfl, ⟨fun c7 => hP 118 _ _ _ ⟨rfl, ⟨rfl, (((((b4.2.2 c5) _ rfl) _ rfl).1 c7) _ rfl)⟩⟩, fun c7 => ⟨rfl, ((((b4.2.2 c5) _ rfl) _ rfl).2 c7)⟩⟩⟩⟩⟩⟩)⟩⟩⟩⟩⟩, fun c1 => ⟨rfl, Exists.elim (h.2 c1) fun a8 b8 => ⟨a8, b8.1, hP 23 _ _ _ ⟨rfl, ⟨rfl, ⟨fun c9 => hP 52 _ _ _ (hP 53 _ _ _ ⟨rfl, ⟨rfl, ⟨fun c10 => hP 67 _ _ _ (hP 68 _ _ _ ⟨rfl, ((((b8.2 _ rfl).1 c9).1 c10) _ rfl)⟩), fun c10 => hP 68 _ _ _ ⟨rfl, ((((b8.2 _ rfl).1 c9).2 c10) _ rfl)⟩⟩⟩⟩), fun c9 => ⟨fun c11 => hP 52 _ _ _ (hP 53 _ _ _ ⟨rfl, ⟨rfl, ⟨fun c12 => hP 67 _ _ _ (hP 68 _ _ _ ⟨rfl, (((((b8.2 _ rfl).2 c9).1 c11).1 c12) _ rfl)⟩), fun c12 => hP 68 _ _ _ ⟨rfl, (((((b8.2 _ rfl).2 c9).1 c11).2 c12) _ rfl)⟩⟩⟩⟩), fun c11 => ⟨rfl, Exists.elim (((b8.2 _ rfl).2 c9).2 c11) fun e13 g13 => Exists.elim g13 fun a13 b13 => ⟨e13, a13, b13.1, hP 43 _ _ _ ⟨fun c14 => hP 52 _ _ _ (hP 53 _ _ _ ⟨rfl, ⟨rfl, ⟨fun c15 => hP 67 _ _ _ (hP 68 _ _ _ ⟨rfl, (((b13.2.1 c14).1 c15) _ rfl)⟩), fun c15 => hP 68 _ _ _ ⟨rfl, (((b13.2.1 c14).2 c15) _ rfl)⟩⟩⟩⟩), fun c14 => hP 53 _ _ _ ⟨rfl, ⟨rfl, ⟨fun c16 => hP 67 _ _ _ (hP 68 _ _ _ ⟨rfl, (((b13.2.2 c14).1 c16) _ rfl)⟩), fun c16 => hP 68 _ _ _ ⟨rfl, (((b13.2.2 c14).2 c16) _ rfl)⟩⟩⟩⟩⟩⟩⟩⟩⟩⟩⟩⟩⟩⟩
theorem rg_m_winds_125 {d : Nat} {P : Nat → mj_L → List mj_V → mj_M → Prop} {R : Option mj_V → mj_M → Prop} (hP : mj_Cl mj_c109 (mj_Sp d) (0 < d) P R) {x1 : Int32} {x2 : Int32} {x3 : Int32} {M : mj_M} (h :
  (x1 ≤ x3 →
  R (some (mj_i x1)) M) ∧
  (¬ x1 ≤ x3 →
  vp_in ((nI 2) * x3) 24 ∧ vp_in x3 12 ∧ ∀ M_1 : mj_M, M_1 = mj_wl M (34, 11, 0, x3.toNatClampNeg) (M 33 65 0 ((nI 2) * x3).toNatClampNeg) → vp_in (((nI 2) * x3) + (nI 1)) 24 ∧ vp_in x3 12 ∧ ∀ M_2 : mj_M, M_2 = mj_wl M_1 (34, 12, 0, x3.toNatClampNeg) (M_1 33 65 0 (((nI 2) * x3) + (nI 1)).toNatClampNeg) → ∀ x3_3 : Int32, x3_3 = x3 + (nI 1) → P 125 [some (mj_r (30, 60, 0)), some (mj_i x1), some (mj_i x2), some (mj_i x3_3)] [] M_2)) : P 125 [some (mj_r (30, 60, 0)), some (mj_i x1), some (mj_i x2), some (mj_i x3)] [] M :=
  hP 125 _ _ _ ⟨fun c1 => hP 166 _ _ _ (h.1 c1), fun c1 => ⟨rfl, ⟨rfl, ⟨(h.2 c1).1, ⟨rfl, ⟨(h.2 c1).2.1, ⟨rfl, ⟨rfl, ⟨((h.2 c1).2.2 _ rfl).1, ⟨rfl, ⟨((h.2 c1).2.2 _ rfl).2.1, ⟨rfl, ((((h.2 c1).2.2 _ rfl).2.2 _ rfl) _ rfl)⟩⟩⟩⟩⟩⟩⟩⟩⟩⟩⟩⟩
theorem rg_m_fallen_0 {d : Nat} {P : Nat → mj_L → List mj_V → mj_M → Prop} {R : Option mj_V → mj_M → Prop} (hP : mj_Cl mj_c110 (mj_Sp d) (0 < d) P R) {x1 : Int32} {M : mj_M} (h :
  ∃ (y_2 : Int32) (M_1 : mj_M), mj_Sp d 86 [mj_l x1.toInt64, mj_l (lN 0), mj_l (lN 24)] M (some (mj_i y_2)) M_1 ∧
  (y_2 = 0 →
  R (some (mj_i (-(nI 1)))) M_1) ∧
  (¬ y_2 = 0 →
  vp_in ((nI 50) + x1) 76 ∧ R (some (mj_i (mj_rd M_1 (14, 61, 0) ((nI 50) + x1).toNatClampNeg))) M_1)) : P 0 [some (mj_r (30, 60, 0)), some (mj_i x1)] [] M :=
  hP 0 _ _ _ ⟨rfl, Exists.elim h fun e1 g1 => Exists.elim g1 fun a1 b1 => ⟨e1, a1, b1.1, hP 9 _ _ _ ⟨fun c2 => hP 24 _ _ _ (hP 25 _ _ _ (b1.2.1 c2)), fun c2 => ⟨rfl, ⟨(b1.2.2 c2).1, hP 25 _ _ _ ((b1.2.2 c2).2)⟩⟩⟩⟩⟩
theorem rg_m_sum_0 {d : Nat} {P : Nat → mj_L → List mj_V → mj_M → Prop} {R : Option mj_V → mj_M → Prop} (hP : mj_Cl mj_c111 (mj_Sp d) (0 < d) P R) {x1 : Int32} {x2 : Int32} {M : mj_M} (h :
  P 5 [some (mj_r (30, 60, 0)), some (mj_i x1), some (mj_i x2), some (mj_i (nI 0)), some (mj_i (nI 0))] [] M) : P 0 [some (mj_r (30, 60, 0)), some (mj_i x1), some (mj_i x2), none, none] [] M :=
  hP 0 _ _ _ ⟨rfl, ⟨rfl, h⟩⟩
theorem rg_m_sum_5 {d : Nat} {P : Nat → mj_L → List mj_V → mj_M → Prop} {R : Option mj_V → mj_M → Prop} (hP : mj_Cl mj_c111 (mj_Sp d) (0 < d) P R) {x1 : Int32} {x2 : Int32} {x3 : Int32} {x4 : Int32} {M : mj_M} (h :
  (x2 ≤ x4 →
  R (some (mj_i x3)) M) ∧
  (¬ x2 ≤ x4 →
  vp_in (x1 + x4) 76 ∧ ∀ x3_1 : Int32, x3_1 = x3 + (mj_rd M (14, 61, 0) (x1 + x4).toNatClampNeg) → ∀ x4_2 : Int32, x4_2 = x4 + (nI 1) → P 5 [some (mj_r (30, 60, 0)), some (mj_i x1), some (mj_i x2), some (mj_i x3_1), some (mj_i x4_2)] [] M)) : P 5 [some (mj_r (30, 60, 0)), some (mj_i x1), some (mj_i x2), some (mj_i x3), some (mj_i x4)] [] M :=
  hP 5 _ _ _ ⟨fun c1 => hP 29 _ _ _ (h.1 c1), fun c1 => ⟨rfl, ⟨(h.2 c1).1, ⟨rfl, ⟨rfl, (((h.2 c1).2 _ rfl) _ rfl)⟩⟩⟩⟩⟩
theorem rg_m_count_0 {d : Nat} {P : Nat → mj_L → List mj_V → mj_M → Prop} {R : Option mj_V → mj_M → Prop} (hP : mj_Cl mj_c112 (mj_Sp d) (0 < d) P R) {x1 : Int32} {M : mj_M} (h :
  P 7 [some (mj_r (30, 60, 0)), some (mj_i x1), some (mj_i (nI 0)), some (mj_i (nI 0)), some (mj_i (nI 0))] [] M) : P 0 [some (mj_r (30, 60, 0)), some (mj_i x1), none, none, none] [] M :=
  hP 0 _ _ _ ⟨rfl, ⟨rfl, ⟨rfl, h⟩⟩⟩
theorem rg_m_count_7 {d : Nat} {P : Nat → mj_L → List mj_V → mj_M → Prop} {R : Option mj_V → mj_M → Prop} (hP : mj_Cl mj_c112 (mj_Sp d) (0 < d) P R) {x1 : Int32} {x2 : Int32} {x3 : Int32} {x4 : Int32} {M : mj_M} (h :
  ((M 14 0 0 0) ≤ x4 →
  (x1 = nI 0 →
    R (some (mj_i x2)) M) ∧
    (¬ x1 = nI 0 →
    (x1 = nI 1 →
      R (some (mj_i (M 14 0 0 1))) M) ∧
      (¬ x1 = nI 1 →
      (x1 = nI 2 →
        vp_in (nI 75) 76 ∧ R (some (mj_i (mj_rd M (14, 61, 0) (nI 75).toNatClampNeg))) M) ∧
        (¬ x1 = nI 2 →
        (x1 = nI 3 →
          R (some (mj_i (M 34 10 0 0))) M) ∧
          (¬ x1 = nI 3 →
          (x1 = nI 4 →
            R (some (mj_i x3)) M) ∧
            (¬ x1 = nI 4 →
            (x1 = nI 5 →
              ∃ (y_6 : Int32) (M_5 : mj_M), mj_Sp d 111 [mj_r (30, 60, 0), mj_i (nI 6), mj_i (M 14 0 0 0)] M (some (mj_i y_6)) M_5 ∧
                R (some (mj_i (y_6 - x3))) M_5) ∧
              (¬ x1 = nI 5 →
              (x1 = nI 6 →
                ∃ (y_4 : Int32) (M_3 : mj_M), mj_Sp d 111 [mj_r (30, 60, 0), mj_i (nI 50), mj_i (nI 25)] M (some (mj_i y_4)) M_3 ∧
                  R (some (mj_i y_4)) M_3) ∧
                (¬ x1 = nI 6 →
                (x1 = nI 7 →
                  ∃ (y_2 : Int32) (M_1 : mj_M), mj_Sp d 111 [mj_r (30, 60, 0), mj_i (nI 42), mj_i (M 14 0 0 1)] M (some (mj_i y_2)) M_1 ∧
                    R (some (mj_i y_2)) M_1) ∧
                  (¬ x1 = nI 7 →
                  R (some (mj_i (-(nI 1)))) M))))))))) ∧
  (¬ (M 14 0 0 0) ≤ x4 →
  ∃ (y_8 : Int32) (M_7 : mj_M), mj_Sp d 89 [mj_r (30, 60, 0), mj_i x4] M (some (mj_i y_8)) M_7 ∧
    (y_8 = 0 →
    ∀ x2_9 : Int32, x2_9 = x2 + (nI 0) → ∃ (y_11 : Int32) (M_10 : mj_M), mj_Sp d 89 [mj_r (30, 60, 0), mj_i x4] M_7 (some (mj_i y_11)) M_10 ∧
      (y_11 = 0 →
      ∀ x3_12 : Int32, x3_12 = x3 + (nI 0) → ∀ x4_13 : Int32, x4_13 = x4 + (nI 1) → P 7 [some (mj_r (30, 60, 0)), some (mj_i x1), some (mj_i x2_9), some (mj_i x3_12), some (mj_i x4_13)] [] M_10) ∧
      (¬ y_11 = 0 →
      vp_in ((nI 6) + x4) 76 ∧ ∀ x3_14 : Int32, x3_14 = x3 + (mj_rd M_10 (14, 61, 0) ((nI 6) + x4).toNatClampNeg) → ∀ x4_15 : Int32, x4_15 = x4 + (nI 1) → P 7 [some (mj_r (30, 60, 0)), some (mj_i x1), some (mj_i x2_9), some (mj_i x3_14), some (mj_i x4_15)] [] M_10)) ∧
    (¬ y_8 = 0 →
    ∀ x2_16 : Int32, x2_16 = x2 + (nI 1) → ∃ (y_18 : Int32) (M_17 : mj_M), mj_Sp d 89 [mj_r (30, 60, 0), mj_i x4] M_7 (some (mj_i y_18)) M_17 ∧
      (y_18 = 0 →
      ∀ x3_19 : Int32, x3_19 = x3 + (nI 0) → ∀ x4_20 : Int32, x4_20 = x4 + (nI 1) → P 7 [some (mj_r (30, 60, 0)), some (mj_i x1), some (mj_i x2_16), some (mj_i x3_19), some (mj_i x4_20)] [] M_17) ∧
      (¬ y_18 = 0 →
      vp_in ((nI 6) + x4) 76 ∧ ∀ x3_21 : Int32, x3_21 = x3 + (mj_rd M_17 (14, 61, 0) ((nI 6) + x4).toNatClampNeg) → ∀ x4_22 : Int32, x4_22 = x4 + (nI 1) → P 7 [some (mj_r (30, 60, 0)), some (mj_i x1), some (mj_i x2_16), some (mj_i x3_21), some (mj_i x4_22)] [] M_17)))) : P 7 [some (mj_r (30, 60, 0)), some (mj_i x1), some (mj_i x2), some (mj_i x3), some (mj_i x4)] [] M :=
  hP 7 _ _ _ ⟨rfl, ⟨fun c1 => hP 65 _ _ _ ⟨fun c2 => hP 112 _ _ _ ((h.1 c1).1 c2), fun c2 => ⟨fun c3 => hP 114 _ _ _ ⟨rfl, (((h.1 c1).2 c2).1 c3)⟩, fun c3 => ⟨fun c4 => hP 119 _ _ _ ⟨rfl, ⟨((((h.1 c1).2 c2).2 c3).1 c4).1, ((((h.1 c1).2 c2).2 c3).1 c4).2⟩⟩, fun c4 => ⟨fun c5 => hP 127 _ _ _ ⟨rfl, (((((h.1 c1).2 c2).2 c3).2 c4).1 c5)⟩, fun c5 => ⟨fun c6 => hP 132 _ _ _ ((((((h.1 c1).2 c2).2 c3).2 c4).2 c5).1 c6), fun c6 => ⟨fun c7 => hP 134 _ _ _ ⟨rfl, ⟨rfl, Exists.elim (((((((h.1 c1).2 c2).2 c3).2 c4).2 c5).2 c6).1 c7) fun e8 g8 => Exists.elim g8 fun a8 b8 => ⟨e8, a8, b8.1, hP 144 _ _ _ b8.2⟩⟩⟩, fun c7 => ⟨fun c9 => hP 147 _ _ _ ⟨rfl, Exists.elim ((((((((h.1 c1).2 c2).2 c3).2 c4).2 c5).2 c6).2 c7).1 c9) fun e10 g10 => Exists.elim g10 fun a10 b10 => ⟨e10, a10, b10.1, hP 155 _ _ _ b10.2⟩⟩, fun c9 => ⟨fun c11 => hP 156 _ _ _ ⟨rfl, ⟨rfl, Exists.elim (((((((((h.1 c1).2 c2).2 c3).2 c4).2 c5).2 c6).2 c7).2 c9).1 c11) fun e12 g12 => Exists.elim g12 fun a12 b12 => ⟨e12, a12, b12.1, hP 166 _ _ _ b12.2⟩⟩⟩, fun c11 => hP 167 _ _ _ (((((((((h.1 c1).2 c2).2 c3).2 c4).2 c5).2 c6).2 c7).2 c9).2 c11)⟩⟩⟩⟩⟩⟩⟩⟩, fun c1 => ⟨rfl, Exists.elim (h.2 c1) fun e13 g13 => Exists.elim g13 fun a13 b13 => ⟨e13, a13, b13.1, hP 23 _ _ _ ⟨fun c14 => hP 30 _ _ _ (hP 31 _ _ _ ⟨rfl, ⟨rfl, Exists.elim ((b13.2.1 c14) _ rfl) fun e15 g15 => Exists.elim g15 fun a15 b15 => ⟨e15, a15, b15.1, hP 40 _ _ _ ⟨fun c16 => hP 56 _ _ _ (hP 57 _ _ _ ⟨rfl, ⟨rfl, (((b15.2.1 c16) _ rfl) _ rfl)⟩⟩), fun c16 => ⟨rfl, ⟨(b15.2.2 c16).1, hP 57 _ _ _ ⟨rfl, ⟨rfl, (((b15.2.2 c16).2 _ rfl) _ rfl)⟩⟩⟩⟩⟩⟩⟩⟩), fun c14 => hP 31 _ _ _ ⟨rfl, ⟨rfl, Exists.elim ((b13.2.2 c14) _ rfl) fun e17 g17 => Exists.elim g17 fun a17 b17 => ⟨e17, a17, b17.1, hP 40 _ _ _ ⟨fun c18 => hP 56 _ _ _ (hP 57 _ _ _ ⟨rfl, ⟨rfl, (((b17.2.1 c18) _ rfl) _ rfl)⟩⟩), fun c18 => ⟨rfl, ⟨(b17.2.2 c18).1, hP 57 _ _ _ ⟨rfl, ⟨rfl, (((b17.2.2 c18).2 _ rfl) _ rfl)⟩⟩⟩⟩⟩⟩⟩⟩⟩⟩⟩⟩⟩
theorem rg_m_rains_0 {d : Nat} {P : Nat → mj_L → List mj_V → mj_M → Prop} {R : Option mj_V → mj_M → Prop} (hP : mj_Cl mj_c113 (mj_Sp d) (0 < d) P R) {x0 : Int32} {M : mj_M} (h :
  (¬ x0 = 0 →
  (¬ x0 = (nI 2) →
    R (some (mj_i (nI 1))) M) ∧
    (¬ ¬ x0 = (nI 2) →
    R (some (mj_i (nI 5))) M)) ∧
  (¬ ¬ x0 = 0 →
  R (some (mj_i (nI 2))) M)) : P 0 [some (mj_i x0)] [] M :=
  hP 0 _ _ _ ⟨fun c1 => hP 8 _ _ _ ⟨fun c2 => hP 17 _ _ _ (hP 18 _ _ _ ((h.1 c1).1 c2)), fun c2 => hP 18 _ _ _ ((h.1 c1).2 c2)⟩, fun c1 => hP 18 _ _ _ (h.2 c1)⟩
theorem rg_m_next_0 {d : Nat} {P : Nat → mj_L → List mj_V → mj_M → Prop} {R : Option mj_V → mj_M → Prop} (hP : mj_Cl mj_c114 (mj_Sp d) (0 < d) P R) {x0 : Int32} {x1 : Int32} {M : mj_M} (h :
  ¬ (nI 5) = 0 ∧ (¬ x1 = 0 →
  (¬ x1 = (nI 3) →
    ∀ x2_1 : Int32, x2_1 = (x0 / (nI 5)) + (nI 0) → ¬ (nI 5) = 0 ∧ (¬ x1 = (nI 1) →
      (¬ x1 = (nI 2) →
        ∀ x3_2 : Int32, x3_2 = (x0 % (nI 5)) + (nI 0) → ∃ (y_4 : Int32) (M_3 : mj_M), mj_Sp d 86 [mj_l x2_1.toInt64, mj_l (lN 0), mj_l (lN 4)] M (some (mj_i y_4)) M_3 ∧
          (y_4 = 0 →
          R (some (mj_i (nI 25))) M_3) ∧
          (¬ y_4 = 0 →
          ∃ (y_6 : Int32) (M_5 : mj_M), mj_Sp d 86 [mj_l x3_2.toInt64, mj_l (lN 0), mj_l (lN 4)] M_3 (some (mj_i y_6)) M_5 ∧
            (y_6 = 0 →
            R (some (mj_i (nI 25))) M_5) ∧
            (¬ y_6 = 0 →
            R (some (mj_i (((nI 5) * x2_1) + x3_2))) M_5))) ∧
        (¬ ¬ x1 = (nI 2) →
        ∀ x3_7 : Int32, x3_7 = (x0 % (nI 5)) + (nI 1) → ∃ (y_9 : Int32) (M_8 : mj_M), mj_Sp d 86 [mj_l x2_1.toInt64, mj_l (lN 0), mj_l (lN 4)] M (some (mj_i y_9)) M_8 ∧
          (y_9 = 0 →
          R (some (mj_i (nI 25))) M_8) ∧
          (¬ y_9 = 0 →
          ∃ (y_11 : Int32) (M_10 : mj_M), mj_Sp d 86 [mj_l x3_7.toInt64, mj_l (lN 0), mj_l (lN 4)] M_8 (some (mj_i y_11)) M_10 ∧
            (y_11 = 0 →
            R (some (mj_i (nI 25))) M_10) ∧
            (¬ y_11 = 0 →
            R (some (mj_i (((nI 5) * x2_1) + x3_7))) M_10)))) ∧
      (¬ ¬ x1 = (nI 1) →
      ∀ x3_12 : Int32, x3_12 = (x0 % (nI 5)) + (-(nI 1)) → ∃ (y_14 : Int32) (M_13 : mj_M), mj_Sp d 86 [mj_l x2_1.toInt64, mj_l (lN 0), mj_l (lN 4)] M (some (mj_i y_14)) M_13 ∧
        (y_14 = 0 →
        R (some (mj_i (nI 25))) M_13) ∧
        (¬ y_14 = 0 →
        ∃ (y_16 : Int32) (M_15 : mj_M), mj_Sp d 86 [mj_l x3_12.toInt64, mj_l (lN 0), mj_l (lN 4)] M_13 (some (mj_i y_16)) M_15 ∧
          (y_16 = 0 →
          R (some (mj_i (nI 25))) M_15) ∧
          (¬ y_16 = 0 →
          R (some (mj_i (((nI 5) * x2_1) + x3_12))) M_15)))) ∧
    (¬ ¬ x1 = (nI 3) →
    ∀ x2_17 : Int32, x2_17 = (x0 / (nI 5)) + (nI 1) → ¬ (nI 5) = 0 ∧ (¬ x1 = (nI 1) →
      (¬ x1 = (nI 2) →
        ∀ x3_18 : Int32, x3_18 = (x0 % (nI 5)) + (nI 0) → ∃ (y_20 : Int32) (M_19 : mj_M), mj_Sp d 86 [mj_l x2_17.toInt64, mj_l (lN 0), mj_l (lN 4)] M (some (mj_i y_20)) M_19 ∧
          (y_20 = 0 →
          R (some (mj_i (nI 25))) M_19) ∧
          (¬ y_20 = 0 →
          ∃ (y_22 : Int32) (M_21 : mj_M), mj_Sp d 86 [mj_l x3_18.toInt64, mj_l (lN 0), mj_l (lN 4)] M_19 (some (mj_i y_22)) M_21 ∧
            (y_22 = 0 →
            R (some (mj_i (nI 25))) M_21) ∧
            (¬ y_22 = 0 →
            R (some (mj_i (((nI 5) * x2_17) + x3_18))) M_21))) ∧
        (¬ ¬ x1 = (nI 2) →
        ∀ x3_23 : Int32, x3_23 = (x0 % (nI 5)) + (nI 1) → ∃ (y_25 : Int32) (M_24 : mj_M), mj_Sp d 86 [mj_l x2_17.toInt64, mj_l (lN 0), mj_l (lN 4)] M (some (mj_i y_25)) M_24 ∧
          (y_25 = 0 →
          R (some (mj_i (nI 25))) M_24) ∧
          (¬ y_25 = 0 →
          ∃ (y_27 : Int32) (M_26 : mj_M), mj_Sp d 86 [mj_l x3_23.toInt64, mj_l (lN 0), mj_l (lN 4)] M_24 (some (mj_i y_27)) M_26 ∧
            (y_27 = 0 →
            R (some (mj_i (nI 25))) M_26) ∧
            (¬ y_27 = 0 →
            R (some (mj_i (((nI 5) * x2_17) + x3_23))) M_26)))) ∧
      (¬ ¬ x1 = (nI 1) →
      ∀ x3_28 : Int32, x3_28 = (x0 % (nI 5)) + (-(nI 1)) → ∃ (y_30 : Int32) (M_29 : mj_M), mj_Sp d 86 [mj_l x2_17.toInt64, mj_l (lN 0), mj_l (lN 4)] M (some (mj_i y_30)) M_29 ∧
        (y_30 = 0 →
        R (some (mj_i (nI 25))) M_29) ∧
        (¬ y_30 = 0 →
        ∃ (y_32 : Int32) (M_31 : mj_M), mj_Sp d 86 [mj_l x3_28.toInt64, mj_l (lN 0), mj_l (lN 4)] M_29 (some (mj_i y_32)) M_31 ∧
          (y_32 = 0 →
          R (some (mj_i (nI 25))) M_31) ∧
          (¬ y_32 = 0 →
          R (some (mj_i (((nI 5) * x2_17) + x3_28))) M_31))))) ∧
  (¬ ¬ x1 = 0 →
  ∀ x2_33 : Int32, x2_33 = (x0 / (nI 5)) + (-(nI 1)) → ¬ (nI 5) = 0 ∧ (¬ x1 = (nI 1) →
    (¬ x1 = (nI 2) →
      ∀ x3_34 : Int32, x3_34 = (x0 % (nI 5)) + (nI 0) → ∃ (y_36 : Int32) (M_35 : mj_M), mj_Sp d 86 [mj_l x2_33.toInt64, mj_l (lN 0), mj_l (lN 4)] M (some (mj_i y_36)) M_35 ∧
        (y_36 = 0 →
        R (some (mj_i (nI 25))) M_35) ∧
        (¬ y_36 = 0 →
        ∃ (y_38 : Int32) (M_37 : mj_M), mj_Sp d 86 [mj_l x3_34.toInt64, mj_l (lN 0), mj_l (lN 4)] M_35 (some (mj_i y_38)) M_37 ∧
          (y_38 = 0 →
          R (some (mj_i (nI 25))) M_37) ∧
          (¬ y_38 = 0 →
          R (some (mj_i (((nI 5) * x2_33) + x3_34))) M_37))) ∧
      (¬ ¬ x1 = (nI 2) →
      ∀ x3_39 : Int32, x3_39 = (x0 % (nI 5)) + (nI 1) → ∃ (y_41 : Int32) (M_40 : mj_M), mj_Sp d 86 [mj_l x2_33.toInt64, mj_l (lN 0), mj_l (lN 4)] M (some (mj_i y_41)) M_40 ∧
        (y_41 = 0 →
        R (some (mj_i (nI 25))) M_40) ∧
        (¬ y_41 = 0 →
        ∃ (y_43 : Int32) (M_42 : mj_M), mj_Sp d 86 [mj_l x3_39.toInt64, mj_l (lN 0), mj_l (lN 4)] M_40 (some (mj_i y_43)) M_42 ∧
          (y_43 = 0 →
          R (some (mj_i (nI 25))) M_42) ∧
          (¬ y_43 = 0 →
          R (some (mj_i (((nI 5) * x2_33) + x3_39))) M_42)))) ∧
    (¬ ¬ x1 = (nI 1) →
    ∀ x3_44 : Int32, x3_44 = (x0 % (nI 5)) + (-(nI 1)) → ∃ (y_46 : Int32) (M_45 : mj_M), mj_Sp d 86 [mj_l x2_33.toInt64, mj_l (lN 0), mj_l (lN 4)] M (some (mj_i y_46)) M_45 ∧
      (y_46 = 0 →
      R (some (mj_i (nI 25))) M_45) ∧
      (¬ y_46 = 0 →
      ∃ (y_48 : Int32) (M_47 : mj_M), mj_Sp d 86 [mj_l x3_44.toInt64, mj_l (lN 0), mj_l (lN 4)] M_45 (some (mj_i y_48)) M_47 ∧
        (y_48 = 0 →
        R (some (mj_i (nI 25))) M_47) ∧
        (¬ y_48 = 0 →
        R (some (mj_i (((nI 5) * x2_33) + x3_44))) M_47))))) : P 0 [some (mj_i x0), some (mj_i x1), none, none] [] M :=
  hP 0 _ _ _ ⟨h.1, ⟨fun c1 => hP 11 _ _ _ ⟨fun c2 => hP 20 _ _ _ (hP 21 _ _ _ ⟨rfl, ⟨(((h.2.1 c1).1 c2) _ rfl).1, ⟨fun c3 => hP 35 _ _ _ ⟨fun c4 => hP 44 _ _ _ (hP 45 _ _ _ ⟨rfl, ⟨rfl, Exists.elim ((((((h.2.1 c1).1 c2) _ rfl).2.1 c3).1 c4) _ rfl) fun e5 g5 => Exists.elim g5 fun a5 b5 => ⟨e5, a5, b5.1, hP 56 _ _ _ ⟨fun c6 => hP 79 _ _ _ (hP 81 _ _ _ (b5.2.1 c6)), fun c6 => ⟨rfl, Exists.elim (b5.2.2 c6) fun e7 g7 => Exists.elim g7 fun a7 b7 => ⟨e7, a7, b7.1, hP 68 _ _ _ ⟨fun c8 => hP 79 _ _ _ (hP 81 _ _ _ (b7.2.1 c8)), fun c8 => hP 81 _ _ _ (b7.2.2 c8)⟩⟩⟩⟩⟩⟩⟩), fun c4 => hP 45 _ _ _ ⟨rfl, ⟨rfl, Exists.elim ((((((h.2.1 c1).1 c2) _ rfl).2.1 c3).2 c4) _ rfl) fun e9 g9 => Exists.elim g9 fun a9 b9 => ⟨e9, a9, b9.1, hP 56 _ _ _ ⟨fun c10 => hP 79 _ _ _ (hP 81 _ _ _ (b9.2.1 c10)), fun c10 => ⟨rfl, Exists.elim (b9.2.2 c10) fun e11 g11 => Exists.elim g11 fun a11 b11 => ⟨e11, a11, b11.1, hP 68 _ _ _ ⟨fun c12 => hP 79 _ _ _ (hP 81 _ _ _ (b11.2.1 c12)), fun c12 => hP 81 _ _ _ (b11.2.2 c12)⟩⟩⟩⟩⟩⟩⟩⟩, fun c3 => hP 45 _ _ _ ⟨rfl, ⟨rfl, Exists.elim (((((h.2.1 c1).1 c2) _ rfl).2.2 c3) _ rfl) fun e13 g13 => Exists.elim g13 fun a13 b13 => ⟨e13, a13, b13.1, hP 56 _ _ _ ⟨fun c14 => hP 79 _ _ _ (hP 81 _ _ _ (b13.2.1 c14)), fun c14 => ⟨rfl, Exists.elim (b13.2.2 c14) fun e15 g15 => Exists.elim g15 fun a15 b15 => ⟨e15, a15, b15.1, hP 68 _ _ _ ⟨fun c16 => hP 79 _ _ _ (hP 81 _ _ _ (b15.2.1 c16)), fun c16 => hP 81 _ _ _ (b15.2.2 c16)⟩⟩⟩⟩⟩⟩⟩⟩⟩⟩), fun c2 => hP 21 _ _ _ ⟨rfl, ⟨(((h.2.1 c1).2 c2) _ rfl).1, ⟨fun c17 => hP 35 _ _ _ ⟨fun c18 => hP 44 _ _ _ (hP 45 _ _ _ ⟨rfl, ⟨rfl, Exists.elim ((((((h.2.1 c1).2 c2) _ rfl).2.1 c17).1 c18) _ rfl) fun e19 g19 => Exists.elim g19 fun a19 b19 => ⟨e19, a19, b19.1, hP 56 _ _ _ ⟨fun c20 => hP 79 _ _ _ (hP 81 _ _ _ (b19.2.1 c20)), fun c20 => ⟨rfl, Exists.elim (b19.2.2 c20) fun e21 g21 => Exists.elim g21 fun a21 b21 => ⟨e21, a21, b21.1, hP 68 _ _ _ ⟨fun c22 => hP 79 _ _ _ (hP 81 _ _ _ (b21.2.1 c22)), fun c22 => hP 81 _ _ _ (b21.2.2 c22)⟩⟩⟩⟩⟩⟩⟩), fun c18 => hP 45 _ _ _ ⟨rfl, ⟨rfl, Exists.elim ((((((h.2.1 c1).2 c2) _ rfl).2.1 c17).2 c18) _ rfl) fun e23 g23 => Exists.elim g23 fun a23 b23 => ⟨e23, a23, b23.1, hP 56 _ _ _ ⟨fun c24 => hP 79 _ _ _ (hP 81 _ _ _ (b23.2.1 c24)), fun c24 => ⟨rfl, Exists.elim (b23.2.2 c24) fun e25 g25 => Exists.elim g25 fun a25 b25 => ⟨e25, a25, b25.1, hP 68 _ _ _ ⟨fun c26 => hP 79 _ _ _ (hP 81 _ _ _ (b25.2.1 c26)), fun c26 => hP 81 _ _ _ (b25.2.2 c26)⟩⟩⟩⟩⟩⟩⟩⟩, fun c17 => hP 45 _ _ _ ⟨rfl, ⟨rfl, Exists.elim (((((h.2.1 c1).2 c2) _ rfl).2.2 c17) _ rfl) fun e27 g27 => Exists.elim g27 fun a27 b27 => ⟨e27, a27, b27.1, hP 56 _ _ _ ⟨fun c28 => hP 79 _ _ _ (hP 81 _ _ _ (b27.2.1 c28)), fun c28 => ⟨rfl, Exists.elim (b27.2.2 c28) fun e29 g29 => Exists.elim g29 fun a29 b29 => ⟨e29, a29, b29.1, hP 68 _ _ _ ⟨fun c30 => hP 79 _ _ _ (hP 81 _ _ _ (b29.2.1 c30)), fun c30 => hP 81 _ _ _ (b29.2.2 c30)⟩⟩⟩⟩⟩⟩⟩⟩⟩⟩⟩, fun c1 => hP 21 _ _ _ ⟨rfl, ⟨((h.2.2 c1) _ rfl).1, ⟨fun c31 => hP 35 _ _ _ ⟨fun c32 => hP 44 _ _ _ (hP 45 _ _ _ ⟨rfl, ⟨rfl, Exists.elim (((((h.2.2 c1) _ rfl).2.1 c31).1 c32) _ rfl) fun e33 g33 => Exists.elim g33 fun a33 b33 => ⟨e33, a33, b33.1, hP 56 _ _ _ ⟨fun c34 => hP 79 _ _ _ (hP 81 _ _ _ (b33.2.1 c34)), fun c34 => ⟨rfl, Exists.elim (b33.2.2 c34) fun e35 g35 => Exists.elim g35 fun a35 b35 => ⟨e35, a35, b35.1, hP 68 _ _ _ ⟨fun c36 => hP 79 _ _ _ (hP 81 _ _ _ (b35.2.1 c36)), fun c36 => hP 81 _ _ _ (b35.2.2 c36)⟩⟩⟩⟩⟩⟩⟩), fun c32 => hP 45 _ _ _ ⟨rfl, ⟨rfl, Exists.elim (((((h.2.2 c1) _ rfl).2.1 c31).2 c32) _ rfl) fun e37 g37 => Exists.elim g37 fun a37 b37 => ⟨e37, a37, b37.1, hP 56 _ _ _ ⟨fun c38 => hP 79 _ _ _ (hP 81 _ _ _ (b37.2.1 c38)), fun c38 => ⟨rfl, Exists.elim (b37.2.2 c38) fun e39 g39 => Exists.elim g39 fun a39 b39 => ⟨e39, a39, b39.1, hP 68 _ _ _ ⟨fun c40 => hP 79 _ _ _ (hP 81 _ _ _ (b39.2.1 c40)), fun c40 => hP 81 _ _ _ (b39.2.2 c40)⟩⟩⟩⟩⟩⟩⟩⟩, fun c31 => hP 45 _ _ _ ⟨rfl, ⟨rfl, Exists.elim ((((h.2.2 c1) _ rfl).2.2 c31) _ rfl) fun e41 g41 => Exists.elim g41 fun a41 b41 => ⟨e41, a41, b41.1, hP 56 _ _ _ ⟨fun c42 => hP 79 _ _ _ (hP 81 _ _ _ (b41.2.1 c42)), fun c42 => ⟨rfl, Exists.elim (b41.2.2 c42) fun e43 g43 => Exists.elim g43 fun a43 b43 => ⟨e43, a43, b43.1, hP 68 _ _ _ ⟨fun c44 => hP 79 _ _ _ (hP 81 _ _ _ (b43.2.1 c44)), fun c44 => hP 81 _ _ _ (b43.2.2 c44)⟩⟩⟩⟩⟩⟩⟩⟩⟩⟩⟩⟩
theorem rg_m_towards_0 {d : Nat} {P : Nat → mj_L → List mj_V → mj_M → Prop} {R : Option mj_V → mj_M → Prop} (hP : mj_Cl mj_c115 (mj_Sp d) (0 < d) P R) {x0 : Int32} {x1 : Int32} {M : mj_M} (h :
  ¬ (nI 5) = 0 ∧ ¬ (nI 5) = 0 ∧ ((x0 / (nI 5)) = (x1 / (nI 5)) →
  (x0 ≤ x1 →
    (x1 ≤ x0 →
      R (some (mj_i x0)) M) ∧
      (¬ x1 ≤ x0 →
      R (some (mj_i (x0 + (nI 1)))) M)) ∧
    (¬ x0 ≤ x1 →
    R (some (mj_i (x0 - (nI 1)))) M)) ∧
  (¬ (x0 / (nI 5)) = (x1 / (nI 5)) →
  ¬ (nI 5) = 0 ∧ ¬ (nI 5) = 0 ∧ ((x0 / (nI 5)) ≤ (x1 / (nI 5)) →
    R (some (mj_i (x0 + (nI 5)))) M) ∧
    (¬ (x0 / (nI 5)) ≤ (x1 / (nI 5)) →
    R (some (mj_i (x0 - (nI 5)))) M))) : P 0 [some (mj_i x0), some (mj_i x1)] [] M :=
  hP 0 _ _ _ ⟨h.1, ⟨h.2.1, ⟨fun c1 => hP 28 _ _ _ ⟨fun c2 => hP 39 _ _ _ ⟨fun c3 => hP 50 _ _ _ (hP 51 _ _ _ (((h.2.2.1 c1).1 c2).1 c3)), fun c3 => hP 51 _ _ _ (((h.2.2.1 c1).1 c2).2 c3)⟩, fun c2 => hP 51 _ _ _ ((h.2.2.1 c1).2 c2)⟩, fun c1 => ⟨(h.2.2.2 c1).1, ⟨(h.2.2.2 c1).2.1, ⟨fun c4 => hP 24 _ _ _ (hP 27 _ _ _ ((h.2.2.2 c1).2.2.1 c4)), fun c4 => hP 27 _ _ _ ((h.2.2.2 c1).2.2.2 c4)⟩⟩⟩⟩⟩⟩
theorem rg_m_moves_0 {d : Nat} {P : Nat → mj_L → List mj_V → mj_M → Prop} {R : Option mj_V → mj_M → Prop} (hP : mj_Cl mj_c116 (mj_Sp d) (0 < d) P R) {x1 : Int32} {x2 : Int32} {x3 : Int32} {M : mj_M} (h :
  vp_in ((nI 12) + x1) 76 ∧ (¬ (mj_rd M (14, 61, 0) ((nI 12) + x1).toNatClampNeg) = (nI 2) →
  ∀ x4_1 : Int32, x4_1 = x3 * (nI 1) → ∃ (y_3 : Int32) (M_2 : mj_M), mj_Sp d 94 [mj_r (30, 60, 0), mj_i x1] M (some (mj_i y_3)) M_2 ∧
    P 38 [some (mj_r (30, 60, 0)), some (mj_i x1), some (mj_i x2), some (mj_i x3), some (mj_i x4_1), some (mj_i y_3), some (mj_i (nI 0)), some (mj_i (nI 0)), some (mj_i (nI 0)), none] [] M_2) ∧
  (¬ ¬ (mj_rd M (14, 61, 0) ((nI 12) + x1).toNatClampNeg) = (nI 2) →
  ∀ x4_4 : Int32, x4_4 = x3 * (nI 2) → ∃ (y_6 : Int32) (M_5 : mj_M), mj_Sp d 94 [mj_r (30, 60, 0), mj_i x1] M (some (mj_i y_6)) M_5 ∧
    P 38 [some (mj_r (30, 60, 0)), some (mj_i x1), some (mj_i x2), some (mj_i x3), some (mj_i x4_4), some (mj_i y_6), some (mj_i (nI 0)), some (mj_i (nI 0)), some (mj_i (nI 0)), none] [] M_5)) : P 0 [some (mj_r (30, 60, 0)), some (mj_i x1), some (mj_i x2), some (mj_i x3), none, none, none, none, none, none] [] M :=
  hP 0 _ _ _ ⟨rfl, ⟨h.1, ⟨fun c1 => hP 18 _ _ _ (hP 19 _ _ _ ⟨rfl, ⟨rfl, Exists.elim ((h.2.1 c1) _ rfl) fun e2 g2 => Exists.elim g2 fun a2 b2 => ⟨e2, a2, b2.1, hP 27 _ _ _ ⟨rfl, ⟨rfl, ⟨rfl, ⟨rfl, b2.2⟩⟩⟩⟩⟩⟩⟩), fun c1 => hP 19 _ _ _ ⟨rfl, ⟨rfl, Exists.elim ((h.2.2 c1) _ rfl) fun e3 g3 => Exists.elim g3 fun a3 b3 => ⟨e3, a3, b3.1, hP 27 _ _ _ ⟨rfl, ⟨rfl, ⟨rfl, ⟨rfl, b3.2⟩⟩⟩⟩⟩⟩⟩⟩⟩⟩
theorem rg_m_moves_38 {d : Nat} {P : Nat → mj_L → List mj_V → mj_M → Prop} {R : Option mj_V → mj_M → Prop} (hP : mj_Cl mj_c116 (mj_Sp d) (0 < d) P R) {x1 : Int32} {x2 : Int32} {x3 : Int32} {x4 : Int32} {x5 : Int32} {x6 : Int32} {x7 : Int32} {x8 : Int32} {o9 : Option mj_V} {M : mj_M} (h :
  ((M 14 0 0 1) ≤ x8 →
  (x6 ≤ 0 →
    (x4 ≤ x5 →
      R none M) ∧
      (¬ x4 ≤ x5 →
      vp_in ((nI 0) + x1) 76 ∧ ∃ (y_2 : Int32) (M_1 : mj_M), mj_Sp d 114 [mj_i (mj_rd M (14, 61, 0) ((nI 0) + x1).toNatClampNeg), mj_i x2] M (some (mj_i y_2)) M_1 ∧
        vp_in ((nI 0) + x1) 76 ∧ ∀ M_3 : mj_M, M_3 = mj_wr M_1 (14, 61, 0) ((nI 0) + x1).toNatClampNeg y_2 → vp_in ((nI 0) + x1) 76 ∧ (¬ (mj_rd M_3 (14, 61, 0) ((nI 0) + x1).toNatClampNeg) = (nI 25) →
        R none M_3) ∧
        (¬ ¬ (mj_rd M_3 (14, 61, 0) ((nI 0) + x1).toNatClampNeg) = (nI 25) →
        P 192 [some (mj_r (30, 60, 0)), some (mj_i x1), some (mj_i x2), some (mj_i x3), some (mj_i x4), some (mj_i x5), some (mj_i x6), some (mj_i x7), some (mj_i (nI 0)), o9] [] M_3))) ∧
    (¬ x6 ≤ 0 →
    (x6 < ((x5 - x6) + x4) →
      (x4 ≤ x5 →
        R none M) ∧
        (¬ x4 ≤ x5 →
        vp_in ((nI 0) + x1) 76 ∧ ∃ (y_5 : Int32) (M_4 : mj_M), mj_Sp d 114 [mj_i (mj_rd M (14, 61, 0) ((nI 0) + x1).toNatClampNeg), mj_i x2] M (some (mj_i y_5)) M_4 ∧
          vp_in ((nI 0) + x1) 76 ∧ ∀ M_6 : mj_M, M_6 = mj_wr M_4 (14, 61, 0) ((nI 0) + x1).toNatClampNeg y_5 → vp_in ((nI 0) + x1) 76 ∧ (¬ (mj_rd M_6 (14, 61, 0) ((nI 0) + x1).toNatClampNeg) = (nI 25) →
          R none M_6) ∧
          (¬ ¬ (mj_rd M_6 (14, 61, 0) ((nI 0) + x1).toNatClampNeg) = (nI 25) →
          P 192 [some (mj_r (30, 60, 0)), some (mj_i x1), some (mj_i x2), some (mj_i x3), some (mj_i x4), some (mj_i x5), some (mj_i x6), some (mj_i x7), some (mj_i (nI 0)), o9] [] M_6))) ∧
      (¬ x6 < ((x5 - x6) + x4) →
      vp_in ((nI 0) + x1) 76 ∧ vp_in x7 4 ∧ ∃ (y_8 : Int32) (M_7 : mj_M), mj_Sp d 115 [mj_i (mj_rd M (14, 61, 0) ((nI 0) + x1).toNatClampNeg), mj_i (M 14 5 0 x7.toNatClampNeg)] M (some (mj_i y_8)) M_7 ∧
        vp_in ((nI 0) + x1) 76 ∧ ∀ M_9 : mj_M, M_9 = mj_wr M_7 (14, 61, 0) ((nI 0) + x1).toNatClampNeg y_8 → R none M_9))) ∧
  (¬ (M 14 0 0 1) ≤ x8 →
  vp_in (((nI 18) + ((nI 6) * x8)) + x1) 76 ∧ ∀ x9_10 : Int32, x9_10 = mj_rd M (14, 61, 0) (((nI 18) + ((nI 6) * x8)) + x1).toNatClampNeg → (x9_10 ≤ x6 →
    (x9_10 ≤ x6 →
      ∀ x8_11 : Int32, x8_11 = x8 + (nI 1) → P 38 [some (mj_r (30, 60, 0)), some (mj_i x1), some (mj_i x2), some (mj_i x3), some (mj_i x4), some (mj_i x5), some (mj_i x6), some (mj_i x7), some (mj_i x8_11), some (mj_i x9_10)] [] M) ∧
      (¬ x9_10 ≤ x6 →
      ∀ x8_12 : Int32, x8_12 = x8 + (nI 1) → P 38 [some (mj_r (30, 60, 0)), some (mj_i x1), some (mj_i x2), some (mj_i x3), some (mj_i x4), some (mj_i x5), some (mj_i x9_10), some (mj_i x7), some (mj_i x8_12), some (mj_i x9_10)] [] M)) ∧
    (¬ x9_10 ≤ x6 →
    (x9_10 ≤ x6 →
      ∀ x8_13 : Int32, x8_13 = x8 + (nI 1) → P 38 [some (mj_r (30, 60, 0)), some (mj_i x1), some (mj_i x2), some (mj_i x3), some (mj_i x4), some (mj_i x5), some (mj_i x6), some (mj_i x8), some (mj_i x8_13), some (mj_i x9_10)] [] M) ∧
      (¬ x9_10 ≤ x6 →
      ∀ x8_14 : Int32, x8_14 = x8 + (nI 1) → P 38 [some (mj_r (30, 60, 0)), some (mj_i x1), some (mj_i x2), some (mj_i x3), some (mj_i x4), some (mj_i x5), some (mj_i x9_10), some (mj_i x8), some (mj_i x8_14), some (mj_i x9_10)] [] M)))) : P 38 [some (mj_r (30, 60, 0)), some (mj_i x1), some (mj_i x2), some (mj_i x3), some (mj_i x4), some (mj_i x5), some (mj_i x6), some (mj_i x7), some (mj_i x8), o9] [] M :=
  hP 38 _ _ _ ⟨rfl, ⟨fun c1 => hP 102 _ _ _ ⟨fun c2 => hP 149 _ _ _ ⟨fun c3 => hP 240 _ _ _ (((h.1 c1).1 c2).1 c3), fun c3 => ⟨rfl, ⟨rfl, ⟨(((h.1 c1).1 c2).2 c3).1, ⟨rfl, Exists.elim ((((h.1 c1).1 c2).2 c3).2) fun e4 g4 => Exists.elim g4 fun a4 b4 => ⟨e4, a4, b4.1, hP 175 _ _ _ ⟨rfl, ⟨b4.2.1, ⟨rfl, ⟨(b4.2.2 _ rfl).1, ⟨fun c5 => hP 240 _ _ _ ((b4.2.2 _ rfl).2.1 c5), fun c5 => ⟨rfl, ((b4.2.2 _ rfl).2.2 c5)⟩⟩⟩⟩⟩⟩⟩⟩⟩⟩⟩⟩, fun c2 => ⟨fun c6 => hP 149 _ _ _ ⟨fun c7 => hP 240 _ _ _ ((((h.1 c1).2 c2).1 c6).1 c7), fun c7 => ⟨rfl, ⟨rfl, ⟨((((h.1 c1).2 c2).1 c6).2 c7).1, ⟨rfl, Exists.elim (((((h.1 c1).2 c2).1 c6).2 c7).2) fun e8 g8 => Exists.elim g8 fun a8 b8 => ⟨e8, a8, b8.1, hP 175 _ _ _ ⟨rfl, ⟨b8.2.1, ⟨rfl, ⟨(b8.2.2 _ rfl).1, ⟨fun c9 => hP 240 _ _ _ ((b8.2.2 _ rfl).2.1 c9), fun c9 => ⟨rfl, ((b8.2.2 _ rfl).2.2 c9)⟩⟩⟩⟩⟩⟩⟩⟩⟩⟩⟩⟩, fun c6 => ⟨rfl, ⟨rfl, ⟨(((h.1 c1).2 c2).2 c6).1, ⟨rfl, ⟨(((h.1 c1).2 c2).2 c6).2.1, ⟨rfl, Exists.elim ((((h.1 c1).2 c2).2 c6).2.2) fun e10 g10 => Exists.elim g10 fun a10 b10 => ⟨e10, a10, b10.1, hP 145 _ _ _ ⟨rfl, ⟨b10.2.1, hP 240 _ _ _ (b10.2.2 _ rfl)⟩⟩⟩⟩⟩⟩⟩⟩⟩⟩⟩, fun c1 => ⟨rfl, ⟨(h.2 c1).1, ⟨rfl, ⟨fun c11 => hP 76 _ _ _ (hP 78 _ _ _ ⟨rfl, ⟨fun c12 => hP 92 _ _ _ (hP 94 _ _ _ ⟨rfl, ⟨rfl, (((((h.2 c1).2 _ rfl).1 c11).1 c12) _ rfl)⟩⟩), fun c12 => hP 94 _ _ _ ⟨rfl, ⟨rfl, (((((h.2 c1).2 _ rfl).1 c11).2 c12) _ rfl)⟩⟩⟩⟩), fun c11 => hP 78 _ _ _ ⟨rfl, ⟨fun c13 => hP 92 _ _ _ (hP 94 _ _ _ ⟨rfl, ⟨rfl, (((((h.2 c1).2 _ rfl).2 c11).1 c13) _ rfl)⟩⟩), fun c13 => hP 94 _ _ _ ⟨rfl, ⟨rfl, (((((h.2 c1).2 _ rfl).2 c11).2 c13) _ rfl)⟩⟩⟩⟩⟩⟩⟩⟩⟩⟩
theorem rg_m_moves_192 {d : Nat} {P : Nat → mj_L → List mj_V → mj_M → Prop} {R : Option mj_V → mj_M → Prop} (hP : mj_Cl mj_c116 (mj_Sp d) (0 < d) P R) {x1 : Int32} {x2 : Int32} {x3 : Int32} {x4 : Int32} {x5 : Int32} {x6 : Int32} {x7 : Int32} {x8 : Int32} {o9 : Option mj_V} {M : mj_M} (h :
  ((M 14 0 0 1) ≤ x8 →
  ∃ M_1 : mj_M, mj_Sp d 101 [mj_r (30, 60, 0), mj_i x1] M none M_1 ∧
    R none M_1) ∧
  (¬ (M 14 0 0 1) ≤ x8 →
  vp_in ((nI 42) + x8) 76 ∧ vp_in (((nI 18) + ((nI 6) * x8)) + x1) 76 ∧ vp_in ((nI 42) + x8) 76 ∧ ∀ M_2 : mj_M, M_2 = mj_wr M (14, 61, 0) ((nI 42) + x8).toNatClampNeg ((mj_rd M (14, 61, 0) ((nI 42) + x8).toNatClampNeg) - (mj_rd M (14, 61, 0) (((nI 18) + ((nI 6) * x8)) + x1).toNatClampNeg)) → ∀ x8_3 : Int32, x8_3 = x8 + (nI 1) → P 192 [some (mj_r (30, 60, 0)), some (mj_i x1), some (mj_i x2), some (mj_i x3), some (mj_i x4), some (mj_i x5), some (mj_i x6), some (mj_i x7), some (mj_i x8_3), o9] [] M_2)) : P 192 [some (mj_r (30, 60, 0)), some (mj_i x1), some (mj_i x2), some (mj_i x3), some (mj_i x4), some (mj_i x5), some (mj_i x6), some (mj_i x7), some (mj_i x8), o9] [] M :=
  hP 192 _ _ _ ⟨rfl, ⟨fun c1 => hP 235 _ _ _ ⟨rfl, Exists.elim (h.1 c1) fun a2 b2 => ⟨a2, b2.1, hP 240 _ _ _ b2.2⟩⟩, fun c1 => ⟨rfl, ⟨(h.2 c1).1, ⟨rfl, ⟨(h.2 c1).2.1, ⟨rfl, ⟨(h.2 c1).2.2.1, ⟨rfl, (((h.2 c1).2.2.2 _ rfl) _ rfl)⟩⟩⟩⟩⟩⟩⟩⟩⟩
theorem rg_m_hour_0 {d : Nat} {P : Nat → mj_L → List mj_V → mj_M → Prop} {R : Option mj_V → mj_M → Prop} (hP : mj_Cl mj_c117 (mj_Sp d) (0 < d) P R) {x1 : Int32} {x2 : Int32} {M : mj_M} (h :
  P 2 [some (mj_r (30, 60, 0)), some (mj_i x1), some (mj_i x2), some (mj_i (nI 0)), none, none, none, none] [] M) : P 0 [some (mj_r (30, 60, 0)), some (mj_i x1), some (mj_i x2), none, none, none, none, none] [] M :=
  hP 0 _ _ _ ⟨rfl, h⟩
theorem rg_m_hour_2 {d : Nat} {P : Nat → mj_L → List mj_V → mj_M → Prop} {R : Option mj_V → mj_M → Prop} (hP : mj_Cl mj_c117 (mj_Sp d) (0 < d) P R) {x1 : Int32} {x2 : Int32} {x3 : Int32} {M : mj_M} (h :
  ((M 14 0 0 0) ≤ x3 →
  P 36 [some (mj_r (30, 60, 0)), some (mj_i x1), some (mj_i x2), some (mj_i (nI 0)), some (mj_i (nI 0)), none, none, none] [] M) ∧
  (¬ (M 14 0 0 0) ≤ x3 →
  ∃ (y_2 : Int32) (M_1 : mj_M), mj_Sp d 89 [mj_r (30, 60, 0), mj_i x3] M (some (mj_i y_2)) M_1 ∧
    (y_2 = 0 →
    ∀ x3_3 : Int32, x3_3 = x3 + (nI 1) → P 2 [some (mj_r (30, 60, 0)), some (mj_i x1), some (mj_i x2), some (mj_i x3_3), none, none, none, none] [] M_1) ∧
    (¬ y_2 = 0 →
    ∃ M_4 : mj_M, mj_Sp d 116 [mj_r (30, 60, 0), mj_i x3, mj_i x1, mj_i x2] M_1 none M_4 ∧
      ∀ x3_5 : Int32, x3_5 = x3 + (nI 1) → P 2 [some (mj_r (30, 60, 0)), some (mj_i x1), some (mj_i x2), some (mj_i x3_5), none, none, none, none] [] M_4))) : P 2 [some (mj_r (30, 60, 0)), some (mj_i x1), some (mj_i x2), some (mj_i x3), none, none, none, none] [] M :=
  hP 2 _ _ _ ⟨rfl, ⟨fun c1 => hP 31 _ _ _ ⟨rfl, ⟨rfl, (h.1 c1)⟩⟩, fun c1 => ⟨rfl, Exists.elim (h.2 c1) fun e2 g2 => Exists.elim g2 fun a2 b2 => ⟨e2, a2, b2.1, hP 15 _ _ _ ⟨fun c3 => hP 25 _ _ _ ⟨rfl, ((b2.2.1 c3) _ rfl)⟩, fun c3 => ⟨rfl, Exists.elim (b2.2.2 c3) fun a4 b4 => ⟨a4, b4.1, hP 25 _ _ _ ⟨rfl, (b4.2 _ rfl)⟩⟩⟩⟩⟩⟩⟩⟩
theorem rg_m_hour_36 {d : Nat} {P : Nat → mj_L → List mj_V → mj_M → Prop} {R : Option mj_V → mj_M → Prop} (hP : mj_Cl mj_c117 (mj_Sp d) (0 < d) P R) {x1 : Int32} {x2 : Int32} {x3 : Int32} {x4 : Int32} {o5 : Option mj_V} {o6 : Option mj_V} {o7 : Option mj_V} {M : mj_M} (h :
  ((M 14 0 0 0) ≤ x4 →
  vp_in (nI 75) 76 ∧ vp_in (nI 75) 76 ∧ ∀ M_1 : mj_M, M_1 = mj_wr M (14, 61, 0) (nI 75).toNatClampNeg ((mj_rd M (14, 61, 0) (nI 75).toNatClampNeg) + (nI 1)) → R (some (mj_i x3)) M_1) ∧
  (¬ (M 14 0 0 0) ≤ x4 →
  ∃ (y_3 : Int32) (M_2 : mj_M), mj_Sp d 89 [mj_r (30, 60, 0), mj_i x4] M (some (mj_i y_3)) M_2 ∧
    (y_3 = 0 →
    ∀ x4_4 : Int32, x4_4 = x4 + (nI 1) → P 36 [some (mj_r (30, 60, 0)), some (mj_i x1), some (mj_i x2), some (mj_i x3), some (mj_i x4_4), o5, o6, o7] [] M_2) ∧
    (¬ y_3 = 0 →
    vp_in ((nI 0) + x4) 76 ∧ ∀ x5_5 : Int32, x5_5 = mj_rd M_2 (14, 61, 0) ((nI 0) + x4).toNatClampNeg → vp_in ((nI 12) + x4) 76 ∧ ∃ (y_7 : Int32) (M_6 : mj_M), mj_Sp d 113 [mj_i (mj_rd M_2 (14, 61, 0) ((nI 12) + x4).toNatClampNeg)] M_2 (some (mj_i y_7)) M_6 ∧
      vp_in ((nI 6) + x4) 76 ∧ ((mj_rd M_6 (14, 61, 0) ((nI 6) + x4).toNatClampNeg) ≤ y_7 →
      vp_in ((nI 6) + x4) 76 ∧ ∀ x6_8 : Int32, x6_8 = mj_rd M_6 (14, 61, 0) ((nI 6) + x4).toNatClampNeg → vp_in ((nI 6) + x4) 76 ∧ vp_in ((nI 6) + x4) 76 ∧ ∀ M_9 : mj_M, M_9 = mj_wr M_6 (14, 61, 0) ((nI 6) + x4).toNatClampNeg ((mj_rd M_6 (14, 61, 0) ((nI 6) + x4).toNatClampNeg) - x6_8) → vp_in ((nI 50) + x5_5) 76 ∧ vp_in ((nI 50) + x5_5) 76 ∧ ∀ M_10 : mj_M, M_10 = mj_wr M_9 (14, 61, 0) ((nI 50) + x5_5).toNatClampNeg ((mj_rd M_9 (14, 61, 0) ((nI 50) + x5_5).toNatClampNeg) + x6_8) → ∃ (y_12 : Int32) (M_11 : mj_M), mj_Sp d 93 [mj_r (30, 60, 0), mj_i x5_5] M_10 (some (mj_i y_12)) M_11 ∧
        (y_12 < 0 →
        ∀ x3_13 : Int32, x3_13 = x3 + x6_8 → ∀ x4_14 : Int32, x4_14 = x4 + (nI 1) → P 36 [some (mj_r (30, 60, 0)), some (mj_i x1), some (mj_i x2), some (mj_i x3_13), some (mj_i x4_14), some (mj_i x5_5), some (mj_i x6_8), some (mj_i y_12)] [] M_11) ∧
        (¬ y_12 < 0 →
        vp_in ((nI 12) + x4) 76 ∧ ((mj_rd M_11 (14, 61, 0) ((nI 12) + x4).toNatClampNeg) = (nI 3) →
          ∀ x3_15 : Int32, x3_15 = x3 + x6_8 → ∀ x4_16 : Int32, x4_16 = x4 + (nI 1) → P 36 [some (mj_r (30, 60, 0)), some (mj_i x1), some (mj_i x2), some (mj_i x3_15), some (mj_i x4_16), some (mj_i x5_5), some (mj_i x6_8), some (mj_i y_12)] [] M_11) ∧
          (¬ (mj_rd M_11 (14, 61, 0) ((nI 12) + x4).toNatClampNeg) = (nI 3) →
          vp_in ((nI 46) + y_12) 76 ∧ vp_in ((nI 46) + y_12) 76 ∧ ∀ M_17 : mj_M, M_17 = mj_wr M_11 (14, 61, 0) ((nI 46) + y_12).toNatClampNeg ((mj_rd M_11 (14, 61, 0) ((nI 46) + y_12).toNatClampNeg) + x6_8) → ∀ x3_18 : Int32, x3_18 = x3 + x6_8 → ∀ x4_19 : Int32, x4_19 = x4 + (nI 1) → P 36 [some (mj_r (30, 60, 0)), some (mj_i x1), some (mj_i x2), some (mj_i x3_18), some (mj_i x4_19), some (mj_i x5_5), some (mj_i x6_8), some (mj_i y_12)] [] M_17))) ∧
      (¬ (mj_rd M_6 (14, 61, 0) ((nI 6) + x4).toNatClampNeg) ≤ y_7 →
      vp_in ((nI 6) + x4) 76 ∧ vp_in ((nI 6) + x4) 76 ∧ ∀ M_20 : mj_M, M_20 = mj_wr M_6 (14, 61, 0) ((nI 6) + x4).toNatClampNeg ((mj_rd M_6 (14, 61, 0) ((nI 6) + x4).toNatClampNeg) - y_7) → vp_in ((nI 50) + x5_5) 76 ∧ vp_in ((nI 50) + x5_5) 76 ∧ ∀ M_21 : mj_M, M_21 = mj_wr M_20 (14, 61, 0) ((nI 50) + x5_5).toNatClampNeg ((mj_rd M_20 (14, 61, 0) ((nI 50) + x5_5).toNatClampNeg) + y_7) → ∃ (y_23 : Int32) (M_22 : mj_M), mj_Sp d 93 [mj_r (30, 60, 0), mj_i x5_5] M_21 (some (mj_i y_23)) M_22 ∧
        (y_23 < 0 →
        ∀ x3_24 : Int32, x3_24 = x3 + y_7 → ∀ x4_25 : Int32, x4_25 = x4 + (nI 1) → P 36 [some (mj_r (30, 60, 0)), some (mj_i x1), some (mj_i x2), some (mj_i x3_24), some (mj_i x4_25), some (mj_i x5_5), some (mj_i y_7), some (mj_i y_23)] [] M_22) ∧
        (¬ y_23 < 0 →
        vp_in ((nI 12) + x4) 76 ∧ ((mj_rd M_22 (14, 61, 0) ((nI 12) + x4).toNatClampNeg) = (nI 3) →
          ∀ x3_26 : Int32, x3_26 = x3 + y_7 → ∀ x4_27 : Int32, x4_27 = x4 + (nI 1) → P 36 [some (mj_r (30, 60, 0)), some (mj_i x1), some (mj_i x2), some (mj_i x3_26), some (mj_i x4_27), some (mj_i x5_5), some (mj_i y_7), some (mj_i y_23)] [] M_22) ∧
          (¬ (mj_rd M_22 (14, 61, 0) ((nI 12) + x4).toNatClampNeg) = (nI 3) →
          vp_in ((nI 46) + y_23) 76 ∧ vp_in ((nI 46) + y_23) 76 ∧ ∀ M_28 : mj_M, M_28 = mj_wr M_22 (14, 61, 0) ((nI 46) + y_23).toNatClampNeg ((mj_rd M_22 (14, 61, 0) ((nI 46) + y_23).toNatClampNeg) + y_7) → ∀ x3_29 : Int32, x3_29 = x3 + y_7 → ∀ x4_30 : Int32, x4_30 = x4 + (nI 1) → P 36 [some (mj_r (30, 60, 0)), some (mj_i x1), some (mj_i x2), some (mj_i x3_29), some (mj_i x4_30), some (mj_i x5_5), some (mj_i y_7), some (mj_i y_23)] [] M_28)))))) : P 36 [some (mj_r (30, 60, 0)), some (mj_i x1), some (mj_i x2), some (mj_i x3), some (mj_i x4), o5, o6, o7] [] M :=
  hP 36 _ _ _ ⟨rfl, ⟨fun c1 => hP 195 _ _ _ ⟨rfl, ⟨(h.1 c1).1, ⟨rfl, ⟨(h.1 c1).2.1, ((h.1 c1).2.2 _ rfl)⟩⟩⟩⟩, fun c1 => ⟨rfl, Exists.elim (h.2 c1) fun e2 g2 => Exists.elim g2 fun a2 b2 => ⟨e2, a2, b2.1, hP 51 _ _ _ ⟨fun c3 => hP 189 _ _ _ ⟨rfl, ((b2.2.1 c3) _ rfl)⟩, fun c3 => ⟨rfl, ⟨(b2.2.2 c3).1, ⟨rfl, ⟨rfl, ⟨((b2.2.2 c3).2 _ rfl).1, ⟨rfl, Exists.elim (((b2.2.2 c3).2 _ rfl).2) fun e4 g4 => Exists.elim g4 fun a4 b4 => ⟨e4, a4, b4.1, hP 78 _ _ _ ⟨rfl, ⟨rfl, ⟨b4.2.1, ⟨fun c5 => hP 100 _ _ _ ⟨rfl, ⟨(b4.2.2.1 c5).1, hP 110 _ _ _ ⟨rfl, ⟨rfl, ⟨((b4.2.2.1 c5).2 _ rfl).1, ⟨rfl, ⟨((b4.2.2.1 c5).2 _ rfl).2.1, ⟨rfl, ⟨(((b4.2.2.1 c5).2 _ rfl).2.2 _ rfl).1, ⟨rfl, ⟨(((b4.2.2.1 c5).2 _ rfl).2.2 _ rfl).2.1, ⟨rfl, Exists.elim ((((b4.2.2.1 c5).2 _ rfl).2.2 _ rfl).2.2 _ rfl) fun e6 g6 => Exists.elim g6 fun a6 b6 => ⟨e6, a6, b6.1, hP 148 _ _ _ ⟨rfl, ⟨fun c7 => hP 184 _ _ _ ⟨rfl, hP 189 _ _ _ ⟨rfl, (((b6.2.1 c7) _ rfl) _ rfl)⟩⟩, fun c7 => ⟨rfl, ⟨(b6.2.2 c7).1, ⟨fun c8 => hP 184 _ _ _ ⟨rfl, hP 189 _ _ _ ⟨rfl, ((((b6.2.2 c7).2.1 c8) _ rfl) _ rfl)⟩⟩, fun c8 => ⟨rfl, ⟨((b6.2.2 c7).2.2 c8).1, ⟨rfl, ⟨((b6.2.2 c7).2.2 c8).2.1, hP 184 _ _ _ ⟨rfl, hP 189 _ _ _ ⟨rfl, (((((b6.2.2 c7).2.2 c8).2.2 _ rfl) _ rfl) _ rfl)⟩⟩⟩⟩⟩⟩⟩⟩⟩⟩⟩⟩⟩⟩⟩⟩⟩⟩⟩⟩⟩⟩⟩⟩, fun c5 => hP 110 _ _ _ ⟨rfl, ⟨rfl, ⟨(b4.2.2.2 c5).1, ⟨rfl, ⟨(b4.2.2.2 c5).2.1, ⟨rfl, ⟨((b4.2.2.2 c5).2.2 _ rfl).1, ⟨rfl, ⟨((b4.2.2.2 c5).2.2 _ rfl).2.1, ⟨rfl, Exists.elim (((b4.2.2.2 c5).2.2 _ rfl).2.2 _ rfl) fun e9 g9 => Exists.elim g9 fun a9 b9 => ⟨e9, a9, b9.1, hP 148 _ _ _ ⟨rfl, ⟨fun c10 => hP 184 _ _ _ ⟨rfl, hP 189 _ _ _ ⟨rfl, (((b9.2.1 c10) _ rfl) _ rfl)⟩⟩, fun c10 => ⟨rfl, ⟨(b9.2.2 c10).1, ⟨fun c11 => hP 184 _ _ _ ⟨rfl, hP 189 _ _ _ ⟨rfl, ((((b9.2.2 c10).2.1 c11) _ rfl) _ rfl)⟩⟩, fun c11 => ⟨rfl, ⟨((b9.2.2 c10).2.2 c11).1, ⟨rfl, ⟨((b9.2.2 c10).2.2 c11).2.1, hP 184 _ _ _ ⟨rfl, hP 189 _ _ _ ⟨rfl, (((((b9.2.2 c10).2.2 c11).2.2 _ rfl) _ rfl) _ rfl)⟩⟩⟩⟩⟩⟩⟩⟩⟩⟩⟩⟩⟩⟩⟩⟩⟩⟩⟩⟩⟩⟩⟩⟩⟩⟩⟩⟩⟩⟩⟩⟩⟩⟩⟩⟩⟩⟩
theorem rg_m_goes_0 {d : Nat} {P : Nat → mj_L → List mj_V → mj_M → Prop} {R : Option mj_V → mj_M → Prop} (hP : mj_Cl mj_c118 (mj_Sp d) (0 < d) P R) {x1 : Int32} {M : mj_M} (h :
  P 4 [some (mj_r (30, 60, 0)), some (mj_i x1), some (mj_i (nI 0)), some (mj_i (nI 0)), none] [] M) : P 0 [some (mj_r (30, 60, 0)), some (mj_i x1), none, none, none] [] M :=
  hP 0 _ _ _ ⟨rfl, ⟨rfl, h⟩⟩
theorem rg_m_goes_4 {d : Nat} {P : Nat → mj_L → List mj_V → mj_M → Prop} {R : Option mj_V → mj_M → Prop} (hP : mj_Cl mj_c118 (mj_Sp d) (0 < d) P R) {x1 : Int32} {x2 : Int32} {x3 : Int32} {o4 : Option mj_V} {M : mj_M} (h :
  (x1 ≤ x3 →
  R (some (mj_i x2)) M) ∧
  (¬ x1 ≤ x3 →
  (¬ (M 34 10 0 0) = 0 →
    vp_in (nI 75) 76 ∧ ¬ (M 34 10 0 0) = 0 ∧ ∀ x4_1 : Int32, x4_1 = (mj_rd M (14, 61, 0) (nI 75).toNatClampNeg) % (M 34 10 0 0) → (¬ (M 34 10 0 0) = 0 →
      vp_in x4_1 12 ∧ vp_in x4_1 12 ∧ ∃ (y_3 : Int32) (M_2 : mj_M), mj_Sp d 117 [mj_r (30, 60, 0), mj_i (M 34 11 0 x4_1.toNatClampNeg), mj_i (M 34 12 0 x4_1.toNatClampNeg)] M (some (mj_i y_3)) M_2 ∧
        ∀ x2_4 : Int32, x2_4 = x2 + y_3 → ∀ x3_5 : Int32, x3_5 = x3 + (nI 1) → P 4 [some (mj_r (30, 60, 0)), some (mj_i x1), some (mj_i x2_4), some (mj_i x3_5), some (mj_i x4_1)] [] M_2) ∧
      (¬ ¬ (M 34 10 0 0) = 0 →
      ∃ (y_7 : Int32) (M_6 : mj_M), mj_Sp d 117 [mj_r (30, 60, 0), mj_i (nI 0), mj_i (nI 0)] M (some (mj_i y_7)) M_6 ∧
        ∀ x2_8 : Int32, x2_8 = x2 + y_7 → ∀ x3_9 : Int32, x3_9 = x3 + (nI 1) → P 4 [some (mj_r (30, 60, 0)), some (mj_i x1), some (mj_i x2_8), some (mj_i x3_9), some (mj_i x4_1)] [] M_6)) ∧
    (¬ ¬ (M 34 10 0 0) = 0 →
    (¬ (M 34 10 0 0) = 0 →
      vp_in (nI 0) 12 ∧ vp_in (nI 0) 12 ∧ ∃ (y_11 : Int32) (M_10 : mj_M), mj_Sp d 117 [mj_r (30, 60, 0), mj_i (M 34 11 0 (nI 0).toNatClampNeg), mj_i (M 34 12 0 (nI 0).toNatClampNeg)] M (some (mj_i y_11)) M_10 ∧
        ∀ x2_12 : Int32, x2_12 = x2 + y_11 → ∀ x3_13 : Int32, x3_13 = x3 + (nI 1) → P 4 [some (mj_r (30, 60, 0)), some (mj_i x1), some (mj_i x2_12), some (mj_i x3_13), some (mj_i (nI 0))] [] M_10) ∧
      (¬ ¬ (M 34 10 0 0) = 0 →
      ∃ (y_15 : Int32) (M_14 : mj_M), mj_Sp d 117 [mj_r (30, 60, 0), mj_i (nI 0), mj_i (nI 0)] M (some (mj_i y_15)) M_14 ∧
        ∀ x2_16 : Int32, x2_16 = x2 + y_15 → ∀ x3_17 : Int32, x3_17 = x3 + (nI 1) → P 4 [some (mj_r (30, 60, 0)), some (mj_i x1), some (mj_i x2_16), some (mj_i x3_17), some (mj_i (nI 0))] [] M_14)))) : P 4 [some (mj_r (30, 60, 0)), some (mj_i x1), some (mj_i x2), some (mj_i x3), o4] [] M :=
  hP 4 _ _ _ ⟨fun c1 => hP 77 _ _ _ (h.1 c1), fun c1 => ⟨rfl, ⟨fun c2 => hP 20 _ _ _ ⟨rfl, ⟨((h.2 c1).1 c2).1, ⟨rfl, ⟨((h.2 c1).1 c2).2.1, hP 32 _ _ _ ⟨rfl, ⟨rfl, ⟨fun c3 => hP 51 _ _ _ ⟨rfl, ⟨((((h.2 c1).1 c2).2.2 _ rfl).1 c3).1, ⟨rfl, ⟨((((h.2 c1).1 c2).2.2 _ rfl).1 c3).2.1, ⟨rfl, Exists.elim (((((h.2 c1).1 c2).2.2 _ rfl).1 c3).2.2) fun e4 g4 => Exists.elim g4 fun a4 b4 => ⟨e4, a4, b4.1, hP 69 _ _ _ ⟨rfl, ⟨rfl, ((b4.2 _ rfl) _ rfl)⟩⟩⟩⟩⟩⟩⟩⟩, fun c3 => ⟨rfl, Exists.elim ((((h.2 c1).1 c2).2.2 _ rfl).2 c3) fun e5 g5 => Exists.elim g5 fun a5 b5 => ⟨e5, a5, b5.1, hP 48 _ _ _ (hP 69 _ _ _ ⟨rfl, ⟨rfl, ((b5.2 _ rfl) _ rfl)⟩⟩)⟩⟩⟩⟩⟩⟩⟩⟩⟩, fun c2 => hP 32 _ _ _ ⟨rfl, ⟨rfl, ⟨fun c6 => hP 51 _ _ _ ⟨rfl, ⟨(((h.2 c1).2 c2).1 c6).1, ⟨rfl, ⟨(((h.2 c1).2 c2).1 c6).2.1, ⟨rfl, Exists.elim ((((h.2 c1).2 c2).1 c6).2.2) fun e7 g7 => Exists.elim g7 fun a7 b7 => ⟨e7, a7, b7.1, hP 69 _ _ _ ⟨rfl, ⟨rfl, ((b7.2 _ rfl) _ rfl)⟩⟩⟩⟩⟩⟩⟩⟩, fun c6 => ⟨rfl, Exists.elim (((h.2 c1).2 c2).2 c6) fun e8 g8 => Exists.elim g8 fun a8 b8 => ⟨e8, a8, b8.1, hP 48 _ _ _ (hP 69 _ _ _ ⟨rfl, ⟨rfl, ((b8.2 _ rfl) _ rfl)⟩⟩)⟩⟩⟩⟩⟩⟩⟩⟩
theorem rg_m_pass_0 {d : Nat} {P : Nat → mj_L → List mj_V → mj_M → Prop} {R : Option mj_V → mj_M → Prop} (hP : mj_Cl mj_c119 (mj_Sp d) (0 < d) P R) {x1 : Int32} {M : mj_M} (h :
  ∃ (y_2 : Int32) (M_1 : mj_M), mj_Sp d 86 [mj_l x1.toInt64, mj_l (lN 1), mj_l (lN 60)] M (some (mj_i y_2)) M_1 ∧
  (¬ y_2 = 0 →
  vp_in (nI 75) 76 ∧ (((mj_rd M_1 (14, 61, 0) (nI 75).toNatClampNeg) + x1) ≤ (nI 9999) →
    ∃ (y_4 : Int32) (M_3 : mj_M), mj_Sp d 118 [mj_r (30, 60, 0), mj_i x1] M_1 (some (mj_i y_4)) M_3 ∧
      R (some (mj_i y_4)) M_3) ∧
    (¬ ((mj_rd M_1 (14, 61, 0) (nI 75).toNatClampNeg) + x1) ≤ (nI 9999) →
    R (some (mj_i (-(nI 3)))) M_1)) ∧
  (¬ ¬ y_2 = 0 →
  R (some (mj_i (-(nI 1)))) M_1)) : P 0 [some (mj_r (30, 60, 0)), some (mj_i x1)] [] M :=
  hP 0 _ _ _ ⟨rfl, Exists.elim h fun e1 g1 => Exists.elim g1 fun a1 b1 => ⟨e1, a1, b1.1, hP 9 _ _ _ ⟨fun c2 => hP 14 _ _ _ ⟨rfl, ⟨(b1.2.1 c2).1, ⟨fun c3 => hP 34 _ _ _ ⟨rfl, Exists.elim ((b1.2.1 c2).2.1 c3) fun e4 g4 => Exists.elim g4 fun a4 b4 => ⟨e4, a4, b4.1, hP 39 _ _ _ b4.2⟩⟩, fun c3 => hP 39 _ _ _ ((b1.2.1 c2).2.2 c3)⟩⟩⟩, fun c2 => (b1.2.2 c2)⟩⟩⟩
theorem rg_m_drawn_0 {d : Nat} {P : Nat → mj_L → List mj_V → mj_M → Prop} {R : Option mj_V → mj_M → Prop} (hP : mj_Cl mj_c120 (mj_Sp d) (0 < d) P R) {x1 : Int32} {M : mj_M} (h :
  ∃ (y_2 : Int32) (M_1 : mj_M), mj_Sp d 86 [mj_l x1.toInt64, mj_l (lN 1), mj_l (lN 60)] M (some (mj_i y_2)) M_1 ∧
  (¬ y_2 = 0 →
  vp_in (nI 75) 76 ∧ (((mj_rd M_1 (14, 61, 0) (nI 75).toNatClampNeg) + x1) ≤ (nI 9999) →
    P 36 [some (mj_r (30, 60, 0)), some (mj_i x1), some (mj_i (nI 0)), some (mj_i (nI 0)), none] [] M_1) ∧
    (¬ ((mj_rd M_1 (14, 61, 0) (nI 75).toNatClampNeg) + x1) ≤ (nI 9999) →
    R (some (mj_i (-(nI 3)))) M_1)) ∧
  (¬ ¬ y_2 = 0 →
  R (some (mj_i (-(nI 1)))) M_1)) : P 0 [some (mj_r (30, 60, 0)), some (mj_i x1), none, none, none] [] M :=
  hP 0 _ _ _ ⟨rfl, Exists.elim h fun e1 g1 => Exists.elim g1 fun a1 b1 => ⟨e1, a1, b1.1, hP 9 _ _ _ ⟨fun c2 => hP 14 _ _ _ ⟨rfl, ⟨(b1.2.1 c2).1, ⟨fun c3 => hP 32 _ _ _ ⟨rfl, ⟨rfl, ((b1.2.1 c2).2.1 c3)⟩⟩, fun c3 => ((b1.2.1 c2).2.2 c3)⟩⟩⟩, fun c2 => (b1.2.2 c2)⟩⟩⟩
theorem rg_m_drawn_36 {d : Nat} {P : Nat → mj_L → List mj_V → mj_M → Prop} {R : Option mj_V → mj_M → Prop} (hP : mj_Cl mj_c120 (mj_Sp d) (0 < d) P R) {x1 : Int32} {x2 : Int32} {x3 : Int32} {o4 : Option mj_V} {M : mj_M} (h :
  (x1 ≤ x3 →
  R (some (mj_i x2)) M) ∧
  (¬ x1 ≤ x3 →
  ∀ M_1 : mj_M, M_1 = mj_wl M (14, 0, 0, 3) ((((((M 14 0 0 3).toInt64) * (lN 1103515245)) + (lN 12345)) &&& (lN 2147483647)).toInt32) → ¬ (nI 65536) = 0 ∧ ¬ (nI 16) = 0 ∧ ∀ x4_2 : Int32, x4_2 = ((M_1 14 0 0 3) / (nI 65536)) % (nI 16) → ¬ (nI 4) = 0 ∧ ¬ (nI 4) = 0 ∧ ∃ (y_4 : Int32) (M_3 : mj_M), mj_Sp d 117 [mj_r (30, 60, 0), mj_i (x4_2 % (nI 4)), mj_i (x4_2 / (nI 4))] M_1 (some (mj_i y_4)) M_3 ∧
    ∀ x2_5 : Int32, x2_5 = x2 + y_4 → ∀ x3_6 : Int32, x3_6 = x3 + (nI 1) → P 36 [some (mj_r (30, 60, 0)), some (mj_i x1), some (mj_i x2_5), some (mj_i x3_6), some (mj_i x4_2)] [] M_3)) : P 36 [some (mj_r (30, 60, 0)), some (mj_i x1), some (mj_i x2), some (mj_i x3), o4] [] M :=
  hP 36 _ _ _ ⟨fun c1 => hP 96 _ _ _ (h.1 c1), fun c1 => ⟨rfl, ⟨rfl, ⟨rfl, ⟨((h.2 c1) _ rfl).1, ⟨((h.2 c1) _ rfl).2.1, ⟨rfl, ⟨(((h.2 c1) _ rfl).2.2 _ rfl).1, ⟨(((h.2 c1) _ rfl).2.2 _ rfl).2.1, ⟨rfl, Exists.elim ((((h.2 c1) _ rfl).2.2 _ rfl).2.2) fun e2 g2 => Exists.elim g2 fun a2 b2 => ⟨e2, a2, b2.1, hP 88 _ _ _ ⟨rfl, ⟨rfl, ((b2.2 _ rfl) _ rfl)⟩⟩⟩⟩⟩⟩⟩⟩⟩⟩⟩⟩⟩
theorem rg_m_seed_0 {d : Nat} {P : Nat → mj_L → List mj_V → mj_M → Prop} {R : Option mj_V → mj_M → Prop} (hP : mj_Cl mj_c121 (mj_Sp d) (0 < d) P R) {x1 : Int32} {M : mj_M} (h :
  (0 ≤ x1 →
  ∀ x2_1 : Int32, x2_1 = M 14 0 0 3 → ∀ M_2 : mj_M, M_2 = mj_wl M (14, 0, 0, 3) x1 → R (some (mj_i x2_1)) M_2) ∧
  (¬ 0 ≤ x1 →
  R (some (mj_i (-(nI 1)))) M)) : P 0 [some (mj_r (30, 60, 0)), some (mj_i x1), none] [] M :=
  hP 0 _ _ _ ⟨fun c1 => hP 6 _ _ _ ⟨rfl, ⟨rfl, ⟨rfl, (((h.1 c1) _ rfl) _ rfl)⟩⟩⟩, fun c1 => (h.2 c1)⟩
theorem rg_m_keeps_0 {d : Nat} {P : Nat → mj_L → List mj_V → mj_M → Prop} {R : Option mj_V → mj_M → Prop} (hP : mj_Cl mj_c122 (mj_Sp d) (0 < d) P R)  {M : mj_M} (h :
  P 2 [some (mj_r (30, 60, 0)), some (mj_i (nI 0))] [] M) : P 0 [some (mj_r (30, 60, 0)), none] [] M :=
  hP 0 _ _ _ ⟨rfl, h⟩
theorem rg_m_keeps_2 {d : Nat} {P : Nat → mj_L → List mj_V → mj_M → Prop} {R : Option mj_V → mj_M → Prop} (hP : mj_Cl mj_c122 (mj_Sp d) (0 < d) P R) {x1 : Int32} {M : mj_M} (h :
  ((nI 76) ≤ x1 →
  R none M) ∧
  (¬ (nI 76) ≤ x1 →
  vp_in x1 76 ∧ vp_in x1 76 ∧ ∀ M_1 : mj_M, M_1 = mj_wr M (15, 61, 0) x1.toNatClampNeg (mj_rd M (14, 61, 0) x1.toNatClampNeg) → ∀ x1_2 : Int32, x1_2 = x1 + (nI 1) → P 2 [some (mj_r (30, 60, 0)), some (mj_i x1_2)] [] M_1)) : P 2 [some (mj_r (30, 60, 0)), some (mj_i x1)] [] M :=
  hP 2 _ _ _ ⟨fun c1 => hP 26 _ _ _ (h.1 c1), fun c1 => ⟨rfl, ⟨rfl, ⟨(h.2 c1).1, ⟨rfl, ⟨(h.2 c1).2.1, ⟨rfl, (((h.2 c1).2.2 _ rfl) _ rfl)⟩⟩⟩⟩⟩⟩⟩
theorem rg_m_back_0 {d : Nat} {P : Nat → mj_L → List mj_V → mj_M → Prop} {R : Option mj_V → mj_M → Prop} (hP : mj_Cl mj_c123 (mj_Sp d) (0 < d) P R)  {M : mj_M} (h :
  P 2 [some (mj_r (30, 60, 0)), some (mj_i (nI 0))] [] M) : P 0 [some (mj_r (30, 60, 0)), none] [] M :=
  hP 0 _ _ _ ⟨rfl, h⟩
theorem rg_m_back_2 {d : Nat} {P : Nat → mj_L → List mj_V → mj_M → Prop} {R : Option mj_V → mj_M → Prop} (hP : mj_Cl mj_c123 (mj_Sp d) (0 < d) P R) {x1 : Int32} {M : mj_M} (h :
  ((nI 76) ≤ x1 →
  R none M) ∧
  (¬ (nI 76) ≤ x1 →
  vp_in x1 76 ∧ vp_in x1 76 ∧ ∀ M_1 : mj_M, M_1 = mj_wr M (14, 61, 0) x1.toNatClampNeg (mj_rd M (15, 61, 0) x1.toNatClampNeg) → ∀ x1_2 : Int32, x1_2 = x1 + (nI 1) → P 2 [some (mj_r (30, 60, 0)), some (mj_i x1_2)] [] M_1)) : P 2 [some (mj_r (30, 60, 0)), some (mj_i x1)] [] M :=
  hP 2 _ _ _ ⟨fun c1 => hP 26 _ _ _ (h.1 c1), fun c1 => ⟨rfl, ⟨rfl, ⟨(h.2 c1).1, ⟨rfl, ⟨(h.2 c1).2.1, ⟨rfl, (((h.2 c1).2.2 _ rfl) _ rfl)⟩⟩⟩⟩⟩⟩⟩
theorem rg_m_wet_0 {d : Nat} {P : Nat → mj_L → List mj_V → mj_M → Prop} {R : Option mj_V → mj_M → Prop} (hP : mj_Cl mj_c124 (mj_Sp d) (0 < d) P R) {x1 : Int32} {x2 : Int32} {M : mj_M} (h :
  ∃ (y_2 : Int32) (M_1 : mj_M), mj_Sp d 88 [mj_r (30, 60, 0), mj_i x1] M (some (mj_i y_2)) M_1 ∧
  (y_2 = 0 →
  R (some (mj_i (-(nI 1)))) M_1) ∧
  (¬ y_2 = 0 →
  ∃ (y_4 : Int32) (M_3 : mj_M), mj_Sp d 86 [mj_l x2.toInt64, mj_l (lN 1), mj_l (lN 24)] M_1 (some (mj_i y_4)) M_3 ∧
    (¬ y_4 = 0 →
    ∃ M_5 : mj_M, mj_Sp d 122 [mj_r (30, 60, 0)] M_3 none M_5 ∧
      ∃ (y_7 : Int32) (M_6 : mj_M), mj_Sp d 118 [mj_r (30, 60, 0), mj_i x2] M_5 (some (mj_i y_7)) M_6 ∧
      vp_in ((nI 46) + x1) 76 ∧ ∀ x3_8 : Int32, x3_8 = mj_rd M_6 (14, 61, 0) ((nI 46) + x1).toNatClampNeg → ∃ M_9 : mj_M, mj_Sp d 123 [mj_r (30, 60, 0)] M_6 none M_9 ∧
      R (some (mj_i x3_8)) M_9) ∧
    (¬ ¬ y_4 = 0 →
    R (some (mj_i (-(nI 1)))) M_3))) : P 0 [some (mj_r (30, 60, 0)), some (mj_i x1), some (mj_i x2), none] [] M :=
  hP 0 _ _ _ ⟨rfl, Exists.elim h fun e1 g1 => Exists.elim g1 fun a1 b1 => ⟨e1, a1, b1.1, hP 5 _ _ _ ⟨fun c2 => hP 20 _ _ _ (b1.2.1 c2), fun c2 => ⟨rfl, Exists.elim (b1.2.2 c2) fun e3 g3 => Exists.elim g3 fun a3 b3 => ⟨e3, a3, b3.1, hP 17 _ _ _ ⟨fun c4 => hP 22 _ _ _ ⟨rfl, Exists.elim (b3.2.1 c4) fun a5 b5 => ⟨a5, b5.1, hP 26 _ _ _ ⟨rfl, Exists.elim b5.2 fun e6 g6 => Exists.elim g6 fun a6 b6 => ⟨e6, a6, b6.1, hP 31 _ _ _ ⟨rfl, ⟨b6.2.1, ⟨rfl, ⟨rfl, Exists.elim (b6.2.2 _ rfl) fun a7 b7 => ⟨a7, b7.1, hP 46 _ _ _ b7.2⟩⟩⟩⟩⟩⟩⟩⟩⟩, fun c4 => hP 20 _ _ _ (b3.2.2 c4)⟩⟩⟩⟩⟩⟩
theorem rg_m_where_0 {d : Nat} {P : Nat → mj_L → List mj_V → mj_M → Prop} {R : Option mj_V → mj_M → Prop} (hP : mj_Cl mj_c125 (mj_Sp d) (0 < d) P R) {x1 : Int32} {x2 : Int32} {x3 : Int32} {M : mj_M} (h :
  ∃ (y_2 : Int32) (M_1 : mj_M), mj_Sp d 87 [mj_r (30, 60, 0), mj_i x1] M (some (mj_i y_2)) M_1 ∧
  (y_2 = 0 →
  R (some (mj_i (-(nI 1)))) M_1) ∧
  (¬ y_2 = 0 →
  ∃ (y_4 : Int32) (M_3 : mj_M), mj_Sp d 86 [mj_l x2.toInt64, mj_l (lN 1), mj_l (lN 24)] M_1 (some (mj_i y_4)) M_3 ∧
    (y_4 = 0 →
    R (some (mj_i (-(nI 1)))) M_3) ∧
    (¬ y_4 = 0 →
    ∃ (y_6 : Int32) (M_5 : mj_M), mj_Sp d 86 [mj_l x3.toInt64, mj_l (lN 0), mj_l (lN 1)] M_3 (some (mj_i y_6)) M_5 ∧
      (¬ y_6 = 0 →
      ∃ M_7 : mj_M, mj_Sp d 122 [mj_r (30, 60, 0)] M_5 none M_7 ∧
        (¬ x3 = (nI 1) →
        ∃ (y_9 : Int32) (M_8 : mj_M), mj_Sp d 118 [mj_r (30, 60, 0), mj_i x2] M_7 (some (mj_i y_9)) M_8 ∧
          vp_in ((nI 0) + x1) 76 ∧ ∀ x4_10 : Int32, x4_10 = mj_rd M_8 (14, 61, 0) ((nI 0) + x1).toNatClampNeg → ∃ M_11 : mj_M, mj_Sp d 123 [mj_r (30, 60, 0)] M_8 none M_11 ∧
          R (some (mj_i x4_10)) M_11) ∧
        (¬ ¬ x3 = (nI 1) →
        ∃ M_12 : mj_M, mj_Sp d 101 [mj_r (30, 60, 0), mj_i x1] M_7 none M_12 ∧
          ∃ (y_14 : Int32) (M_13 : mj_M), mj_Sp d 118 [mj_r (30, 60, 0), mj_i x2] M_12 (some (mj_i y_14)) M_13 ∧
          vp_in ((nI 0) + x1) 76 ∧ ∀ x4_15 : Int32, x4_15 = mj_rd M_13 (14, 61, 0) ((nI 0) + x1).toNatClampNeg → ∃ M_16 : mj_M, mj_Sp d 123 [mj_r (30, 60, 0)] M_13 none M_16 ∧
          R (some (mj_i x4_15)) M_16)) ∧
      (¬ ¬ y_6 = 0 →
      R (some (mj_i (-(nI 1)))) M_5)))) : P 0 [some (mj_r (30, 60, 0)), some (mj_i x1), some (mj_i x2), some (mj_i x3), none] [] M :=
  hP 0 _ _ _ ⟨rfl, Exists.elim h fun e1 g1 => Exists.elim g1 fun a1 b1 => ⟨e1, a1, b1.1, hP 5 _ _ _ ⟨fun c2 => hP 30 _ _ _ (b1.2.1 c2), fun c2 => ⟨rfl, Exists.elim (b1.2.2 c2) fun e3 g3 => Exists.elim g3 fun a3 b3 => ⟨e3, a3, b3.1, hP 17 _ _ _ ⟨fun c4 => hP 30 _ _ _ (b3.2.1 c4), fun c4 => ⟨rfl, Exists.elim (b3.2.2 c4) fun e5 g5 => Exists.elim g5 fun a5 b5 => ⟨e5, a5, b5.1, hP 27 _ _ _ ⟨fun c6 => hP 32 _ _ _ ⟨rfl, Exists.elim (b5.2.1 c6) fun a7 b7 => ⟨a7, b7.1, hP 36 _ _ _ ⟨fun c8 => hP 46 _ _ _ ⟨rfl, Exists.elim (b7.2.1 c8) fun e9 g9 => Exists.elim g9 fun a9 b9 => ⟨e9, a9, b9.1, hP 51 _ _ _ ⟨rfl, ⟨b9.2.1, ⟨rfl, ⟨rfl, Exists.elim (b9.2.2 _ rfl) fun a10 b10 => ⟨a10, b10.1, hP 66 _ _ _ b10.2⟩⟩⟩⟩⟩⟩⟩, fun c8 => ⟨rfl, Exists.elim (b7.2.2 c8) fun a11 b11 => ⟨a11, b11.1, hP 46 _ _ _ ⟨rfl, Exists.elim b11.2 fun e12 g12 => Exists.elim g12 fun a12 b12 => ⟨e12, a12, b12.1, hP 51 _ _ _ ⟨rfl, ⟨b12.2.1, ⟨rfl, ⟨rfl, Exists.elim (b12.2.2 _ rfl) fun a13 b13 => ⟨a13, b13.1, hP 66 _ _ _ b13.2⟩⟩⟩⟩⟩⟩⟩⟩⟩⟩⟩⟩, fun c6 => hP 30 _ _ _ (b5.2.2 c6)⟩⟩⟩⟩⟩⟩⟩⟩⟩
theorem rg_m_begins_0 {d : Nat} {P : Nat → mj_L → List mj_V → mj_M → Prop} {R : Option mj_V → mj_M → Prop} (hP : mj_Cl mj_c126 (mj_Sp d) (0 < d) P R) {x1 : Int32} {M : mj_M} (h :
  P 2 [some (mj_r (30, 60, 0)), some (mj_i x1), some (mj_i (nI 0))] [] M) : P 0 [some (mj_r (30, 60, 0)), some (mj_i x1), none] [] M :=
  hP 0 _ _ _ ⟨rfl, h⟩
theorem rg_m_begins_2 {d : Nat} {P : Nat → mj_L → List mj_V → mj_M → Prop} {R : Option mj_V → mj_M → Prop} (hP : mj_Cl mj_c126 (mj_Sp d) (0 < d) P R) {x1 : Int32} {x2 : Int32} {M : mj_M} (h :
  ((nI 6) ≤ x2 →
  ∃ (y_2 : Int32) (M_1 : mj_M), mj_Sp d 127 [mj_r (30, 60, 0)] M (some (mj_i y_2)) M_1 ∧
    (y_2 < 0 →
    (0 ≤ y_2 →
      R (some (mj_i (nI 1))) M_1) ∧
      (¬ 0 ≤ y_2 →
      (¬ x1 = 0 →
        R (some (mj_i (nI 0))) M_1) ∧
        (¬ ¬ x1 = 0 →
        R (some (mj_i (nI 1))) M_1))) ∧
    (¬ y_2 < 0 →
    vp_in y_2 6 ∧ ∀ M_3 : mj_M, M_3 = mj_wl M_1 (33, 66, 0, y_2.toNatClampNeg) x1 → (0 ≤ y_2 →
      R (some (mj_i (nI 1))) M_3) ∧
      (¬ 0 ≤ y_2 →
      (¬ x1 = 0 →
        R (some (mj_i (nI 0))) M_3) ∧
        (¬ ¬ x1 = 0 →
        R (some (mj_i (nI 1))) M_3)))) ∧
  (¬ (nI 6) ≤ x2 →
  vp_in x2 6 ∧ ∀ M_4 : mj_M, M_4 = mj_wl M (33, 66, 0, x2.toNatClampNeg) (nI 0) → ∀ x2_5 : Int32, x2_5 = x2 + (nI 1) → P 2 [some (mj_r (30, 60, 0)), some (mj_i x1), some (mj_i x2_5)] [] M_4)) : P 2 [some (mj_r (30, 60, 0)), some (mj_i x1), some (mj_i x2)] [] M :=
  hP 2 _ _ _ ⟨fun c1 => hP 21 _ _ _ ⟨rfl, Exists.elim (h.1 c1) fun e2 g2 => Exists.elim g2 fun a2 b2 => ⟨e2, a2, b2.1, hP 25 _ _ _ ⟨rfl, ⟨fun c3 => hP 37 _ _ _ ⟨fun c4 => hP 45 _ _ _ (hP 50 _ _ _ ⟨(Or.inr rfl), ((b2.2.1 c3).1 c4)⟩), fun c4 => ⟨fun c5 => hP 49 _ _ _ (hP 50 _ _ _ ⟨(Or.inl rfl), (((b2.2.1 c3).2 c4).1 c5)⟩), fun c5 => hP 45 _ _ _ (hP 50 _ _ _ ⟨(Or.inr rfl), (((b2.2.1 c3).2 c4).2 c5)⟩)⟩⟩, fun c3 => ⟨rfl, ⟨rfl, ⟨(b2.2.2 c3).1, hP 37 _ _ _ ⟨fun c6 => hP 45 _ _ _ (hP 50 _ _ _ ⟨(Or.inr rfl), (((b2.2.2 c3).2 _ rfl).1 c6)⟩), fun c6 => ⟨fun c7 => hP 49 _ _ _ (hP 50 _ _ _ ⟨(Or.inl rfl), ((((b2.2.2 c3).2 _ rfl).2 c6).1 c7)⟩), fun c7 => hP 45 _ _ _ (hP 50 _ _ _ ⟨(Or.inr rfl), ((((b2.2.2 c3).2 _ rfl).2 c6).2 c7)⟩)⟩⟩⟩⟩⟩⟩⟩⟩⟩, fun c1 => ⟨rfl, ⟨rfl, ⟨(h.2 c1).1, ⟨rfl, (((h.2 c1).2 _ rfl) _ rfl)⟩⟩⟩⟩⟩
theorem rg_m_lastOver_0 {d : Nat} {P : Nat → mj_L → List mj_V → mj_M → Prop} {R : Option mj_V → mj_M → Prop} (hP : mj_Cl mj_c127 (mj_Sp d) (0 < d) P R)  {M : mj_M} (h :
  P 4 [some (mj_r (30, 60, 0)), some (mj_i (-(nI 1))), some (mj_i (nI 0))] [] M) : P 0 [some (mj_r (30, 60, 0)), none, none] [] M :=
  hP 0 _ _ _ ⟨rfl, ⟨rfl, h⟩⟩
theorem rg_m_lastOver_4 {d : Nat} {P : Nat → mj_L → List mj_V → mj_M → Prop} {R : Option mj_V → mj_M → Prop} (hP : mj_Cl mj_c127 (mj_Sp d) (0 < d) P R) {x1 : Int32} {x2 : Int32} {M : mj_M} (h :
  ((M 14 0 0 0) ≤ x2 →
  R (some (mj_i x1)) M) ∧
  (¬ (M 14 0 0 0) ≤ x2 →
  ∃ (y_2 : Int32) (M_1 : mj_M), mj_Sp d 89 [mj_r (30, 60, 0), mj_i x2] M (some (mj_i y_2)) M_1 ∧
    (y_2 = 0 →
    ∀ x2_3 : Int32, x2_3 = x2 + (nI 1) → P 4 [some (mj_r (30, 60, 0)), some (mj_i x1), some (mj_i x2_3)] [] M_1) ∧
    (¬ y_2 = 0 →
    ∀ x2_4 : Int32, x2_4 = x2 + (nI 1) → P 4 [some (mj_r (30, 60, 0)), some (mj_i x2), some (mj_i x2_4)] [] M_1))) : P 4 [some (mj_r (30, 60, 0)), some (mj_i x1), some (mj_i x2)] [] M :=
  hP 4 _ _ _ ⟨rfl, ⟨fun c1 => hP 32 _ _ _ (h.1 c1), fun c1 => ⟨rfl, Exists.elim (h.2 c1) fun e2 g2 => Exists.elim g2 fun a2 b2 => ⟨e2, a2, b2.1, hP 17 _ _ _ ⟨fun c3 => hP 24 _ _ _ (hP 25 _ _ _ ⟨rfl, ⟨rfl, ((b2.2.1 c3) _ rfl)⟩⟩), fun c3 => hP 25 _ _ _ ⟨rfl, ⟨rfl, ((b2.2.2 c3) _ rfl)⟩⟩⟩⟩⟩⟩⟩
theorem rg_m_turns_0 {d : Nat} {P : Nat → mj_L → List mj_V → mj_M → Prop} {R : Option mj_V → mj_M → Prop} (hP : mj_Cl mj_c128 (mj_Sp d) (0 < d) P R)  {M : mj_M} (h :
  ∃ (y_2 : Int32) (M_1 : mj_M), mj_Sp d 127 [mj_r (30, 60, 0)] M (some (mj_i y_2)) M_1 ∧
  (0 ≤ y_2 →
  vp_in y_2 6 ∧ ∀ x2_3 : Int32, x2_3 = M_1 33 66 0 y_2.toNatClampNeg → ∀ x3_4 : Int32, x3_4 = y_2 - (nI 1) → P 24 [some (mj_r (30, 60, 0)), some (mj_i y_2), some (mj_i x2_3), some (mj_i x3_4), none] [] M_1) ∧
  (¬ 0 ≤ y_2 →
  ∀ x3_5 : Int32, x3_5 = y_2 - (nI 1) → P 24 [some (mj_r (30, 60, 0)), some (mj_i y_2), some (mj_i (nI 0)), some (mj_i x3_5), none] [] M_1)) : P 0 [some (mj_r (30, 60, 0)), none, none, none, none] [] M :=
  hP 0 _ _ _ ⟨rfl, Exists.elim h fun e1 g1 => Exists.elim g1 fun a1 b1 => ⟨e1, a1, b1.1, hP 4 _ _ _ ⟨rfl, ⟨fun c2 => hP 13 _ _ _ ⟨rfl, ⟨(b1.2.1 c2).1, hP 19 _ _ _ ⟨rfl, ⟨rfl, (((b1.2.1 c2).2 _ rfl) _ rfl)⟩⟩⟩⟩, fun c2 => hP 19 _ _ _ ⟨rfl, ⟨rfl, ((b1.2.2 c2) _ rfl)⟩⟩⟩⟩⟩⟩
theorem rg_m_turns_24 {d : Nat} {P : Nat → mj_L → List mj_V → mj_M → Prop} {R : Option mj_V → mj_M → Prop} (hP : mj_Cl mj_c128 (mj_Sp d) (0 < d) P R) {x1 : Int32} {x2 : Int32} {x3 : Int32} {M : mj_M} (h :
  (x3 < 0 →
  R (some (mj_i (nI 0))) M) ∧
  (¬ x3 < 0 →
  ∃ (y_2 : Int32) (M_1 : mj_M), mj_Sp d 89 [mj_r (30, 60, 0), mj_i x3] M (some (mj_i y_2)) M_1 ∧
    (y_2 = 0 →
    vp_in x3 6 ∧ ∀ x2_3 : Int32, x2_3 = x2 + (M_1 33 66 0 x3.toNatClampNeg) → ∀ x3_4 : Int32, x3_4 = x3 + (-(nI 1)) → P 24 [some (mj_r (30, 60, 0)), some (mj_i x1), some (mj_i x2_3), some (mj_i x3_4), none] [] M_1) ∧
    (¬ y_2 = 0 →
    (x2 ≤ 0 →
      vp_in x3 6 ∧ ∀ x2_5 : Int32, x2_5 = x2 + (M_1 33 66 0 x3.toNatClampNeg) → ∀ x3_6 : Int32, x3_6 = x3 + (-(nI 1)) → P 24 [some (mj_r (30, 60, 0)), some (mj_i x1), some (mj_i x2_5), some (mj_i x3_6), none] [] M_1) ∧
      (¬ x2 ≤ 0 →
      vp_in x3 6 ∧ vp_in x3 6 ∧ ∀ M_7 : mj_M, M_7 = mj_wl M_1 (33, 66, 0, x3.toNatClampNeg) ((M_1 33 66 0 x3.toNatClampNeg) + (nI 1)) → ∀ x4_8 : Int32, x4_8 = x3 + (nI 1) → P 55 [some (mj_r (30, 60, 0)), some (mj_i x1), some (mj_i x2), some (mj_i x3), some (mj_i x4_8)] [] M_7)))) : P 24 [some (mj_r (30, 60, 0)), some (mj_i x1), some (mj_i x2), some (mj_i x3), none] [] M :=
  hP 24 _ _ _ ⟨fun c1 => hP 101 _ _ _ ⟨(Or.inl rfl), (h.1 c1)⟩, fun c1 => ⟨rfl, Exists.elim (h.2 c1) fun e2 g2 => Exists.elim g2 fun a2 b2 => ⟨e2, a2, b2.1, hP 33 _ _ _ ⟨fun c3 => hP 86 _ _ _ ⟨rfl, ⟨(b2.2.1 c3).1, ⟨rfl, ⟨rfl, (((b2.2.1 c3).2 _ rfl) _ rfl)⟩⟩⟩⟩, fun c3 => ⟨fun c4 => hP 86 _ _ _ ⟨rfl, ⟨((b2.2.2 c3).1 c4).1, ⟨rfl, ⟨rfl, ((((b2.2.2 c3).1 c4).2 _ rfl) _ rfl)⟩⟩⟩⟩, fun c4 => ⟨rfl, ⟨((b2.2.2 c3).2 c4).1, ⟨rfl, ⟨((b2.2.2 c3).2 c4).2.1, ⟨rfl, ((((b2.2.2 c3).2 c4).2.2 _ rfl) _ rfl)⟩⟩⟩⟩⟩⟩⟩⟩⟩⟩
theorem rg_m_turns_55 {d : Nat} {P : Nat → mj_L → List mj_V → mj_M → Prop} {R : Option mj_V → mj_M → Prop} (hP : mj_Cl mj_c128 (mj_Sp d) (0 < d) P R) {x1 : Int32} {x2 : Int32} {x3 : Int32} {x4 : Int32} {M : mj_M} (h :
  (x1 < x4 →
  vp_in x1 6 ∧ ∀ M_1 : mj_M, M_1 = mj_wl M (33, 66, 0, x1.toNatClampNeg) (x2 - (nI 1)) → R (some (mj_i (nI 1))) M_1) ∧
  (¬ x1 < x4 →
  vp_in x4 6 ∧ ∀ M_2 : mj_M, M_2 = mj_wl M (33, 66, 0, x4.toNatClampNeg) (nI 0) → ∀ x4_3 : Int32, x4_3 = x4 + (nI 1) → P 55 [some (mj_r (30, 60, 0)), some (mj_i x1), some (mj_i x2), some (mj_i x3), some (mj_i x4_3)] [] M_2)) : P 55 [some (mj_r (30, 60, 0)), some (mj_i x1), some (mj_i x2), some (mj_i x3), some (mj_i x4)] [] M :=
  hP 55 _ _ _ ⟨fun c1 => hP 75 _ _ _ ⟨rfl, ⟨rfl, ⟨(h.1 c1).1, ⟨(Or.inr rfl), ((h.1 c1).2 _ rfl)⟩⟩⟩⟩, fun c1 => ⟨rfl, ⟨rfl, ⟨(h.2 c1).1, ⟨rfl, (((h.2 c1).2 _ rfl) _ rfl)⟩⟩⟩⟩⟩
theorem rg_m_isEnough_0 {d : Nat} {P : Nat → mj_L → List mj_V → mj_M → Prop} {R : Option mj_V → mj_M → Prop} (hP : mj_Cl mj_c129 (mj_Sp d) (0 < d) P R) {x1 : Int32} {x2 : Int32} {M : mj_M} (h :
  ∃ M_1 : mj_M, mj_Sp d 122 [mj_r (30, 60, 0)] M none M_1 ∧
  P 6 [some (mj_r (30, 60, 0)), some (mj_i x1), some (mj_i x2), some (mj_i (nI 0))] [] M_1) : P 0 [some (mj_r (30, 60, 0)), some (mj_i x1), some (mj_i x2), none] [] M :=
  hP 0 _ _ _ ⟨rfl, Exists.elim h fun a1 b1 => ⟨a1, b1.1, hP 4 _ _ _ ⟨rfl, b1.2⟩⟩⟩
theorem rg_m_isEnough_6 {d : Nat} {P : Nat → mj_L → List mj_V → mj_M → Prop} {R : Option mj_V → mj_M → Prop} (hP : mj_Cl mj_c129 (mj_Sp d) (0 < d) P R) {x1 : Int32} {x2 : Int32} {x3 : Int32} {M : mj_M} (h :
  ((nI 6) ≤ x3 →
  ∃ (y_2 : Int32) (M_1 : mj_M), mj_Sp d 118 [mj_r (30, 60, 0), mj_i x2] M (some (mj_i y_2)) M_1 ∧
    vp_in ((nI 46) + x1) 76 ∧ vp_in x1 4 ∧ ((mj_rd M_1 (14, 61, 0) ((nI 46) + x1).toNatClampNeg) < (M_1 14 7 0 x1.toNatClampNeg) →
    ∃ M_3 : mj_M, mj_Sp d 123 [mj_r (30, 60, 0)] M_1 none M_3 ∧
      R (some (mj_i (nI 0))) M_3) ∧
    (¬ (mj_rd M_1 (14, 61, 0) ((nI 46) + x1).toNatClampNeg) < (M_1 14 7 0 x1.toNatClampNeg) →
    ∃ M_4 : mj_M, mj_Sp d 123 [mj_r (30, 60, 0)] M_1 none M_4 ∧
      R (some (mj_i (nI 1))) M_4)) ∧
  (¬ (nI 6) ≤ x3 →
  vp_in x3 6 ∧ vp_in (((nI 18) + ((nI 6) * x1)) + x3) 76 ∧ ∀ M_5 : mj_M, M_5 = mj_wr M (14, 61, 0) (((nI 18) + ((nI 6) * x1)) + x3).toNatClampNeg (M 33 66 0 x3.toNatClampNeg) → ∀ x3_6 : Int32, x3_6 = x3 + (nI 1) → P 6 [some (mj_r (30, 60, 0)), some (mj_i x1), some (mj_i x2), some (mj_i x3_6)] [] M_5)) : P 6 [some (mj_r (30, 60, 0)), some (mj_i x1), some (mj_i x2), some (mj_i x3)] [] M :=
  hP 6 _ _ _ ⟨fun c1 => hP 38 _ _ _ ⟨rfl, Exists.elim (h.1 c1) fun e2 g2 => Exists.elim g2 fun a2 b2 => ⟨e2, a2, b2.1, hP 43 _ _ _ ⟨rfl, ⟨b2.2.1, ⟨rfl, ⟨b2.2.2.1, ⟨fun c3 => hP 66 _ _ _ (hP 67 _ _ _ ⟨rfl, ⟨rfl, Exists.elim (b2.2.2.2.1 c3) fun a4 b4 => ⟨a4, b4.1, hP 72 _ _ _ ⟨(Or.inl rfl), b4.2⟩⟩⟩⟩), fun c3 => hP 67 _ _ _ ⟨rfl, ⟨rfl, Exists.elim (b2.2.2.2.2 c3) fun a5 b5 => ⟨a5, b5.1, hP 72 _ _ _ ⟨(Or.inr rfl), b5.2⟩⟩⟩⟩⟩⟩⟩⟩⟩⟩⟩, fun c1 => ⟨rfl, ⟨rfl, ⟨(h.2 c1).1, ⟨rfl, ⟨(h.2 c1).2.1, ⟨rfl, (((h.2 c1).2.2 _ rfl) _ rfl)⟩⟩⟩⟩⟩⟩⟩
theorem rg_m_fewest_0 {d : Nat} {P : Nat → mj_L → List mj_V → mj_M → Prop} {R : Option mj_V → mj_M → Prop} (hP : mj_Cl mj_c130 (mj_Sp d) (0 < d) P R) {x1 : Int32} {x2 : Int32} {x3 : Int32} {M : mj_M} (h :
  ∃ (y_2 : Int32) (M_1 : mj_M), mj_Sp d 88 [mj_r (30, 60, 0), mj_i x1] M (some (mj_i y_2)) M_1 ∧
  (y_2 = 0 →
  R (some (mj_i (-(nI 1)))) M_1) ∧
  (¬ y_2 = 0 →
  ∃ (y_4 : Int32) (M_3 : mj_M), mj_Sp d 86 [mj_l x2.toInt64, mj_l (lN 1), mj_l (lN 12)] M_1 (some (mj_i y_4)) M_3 ∧
    (y_4 = 0 →
    R (some (mj_i (-(nI 1)))) M_3) ∧
    (¬ y_4 = 0 →
    ∃ (y_6 : Int32) (M_5 : mj_M), mj_Sp d 86 [mj_l x3.toInt64, mj_l (-(lN 1)), mj_l (lN 5)] M_3 (some (mj_i y_6)) M_5 ∧
      (¬ y_6 = 0 →
      P 39 [some (mj_r (30, 60, 0)), some (mj_i x1), some (mj_i x2), some (mj_i x3), some (mj_i (nI 0)), none] [] M_5) ∧
      (¬ ¬ y_6 = 0 →
      R (some (mj_i (-(nI 1)))) M_5)))) : P 0 [some (mj_r (30, 60, 0)), some (mj_i x1), some (mj_i x2), some (mj_i x3), none, none] [] M :=
  hP 0 _ _ _ ⟨rfl, Exists.elim h fun e1 g1 => Exists.elim g1 fun a1 b1 => ⟨e1, a1, b1.1, hP 5 _ _ _ ⟨fun c2 => hP 34 _ _ _ (b1.2.1 c2), fun c2 => ⟨rfl, Exists.elim (b1.2.2 c2) fun e3 g3 => Exists.elim g3 fun a3 b3 => ⟨e3, a3, b3.1, hP 17 _ _ _ ⟨fun c4 => hP 34 _ _ _ (b3.2.1 c4), fun c4 => ⟨rfl, Exists.elim (b3.2.2 c4) fun e5 g5 => Exists.elim g5 fun a5 b5 => ⟨e5, a5, b5.1, hP 31 _ _ _ ⟨fun c6 => hP 36 _ _ _ ⟨rfl, (b5.2.1 c6)⟩, fun c6 => hP 34 _ _ _ (b5.2.2 c6)⟩⟩⟩⟩⟩⟩⟩⟩⟩
theorem rg_m_fewest_39 {d : Nat} {P : Nat → mj_L → List mj_V → mj_M → Prop} {R : Option mj_V → mj_M → Prop} (hP : mj_Cl mj_c130 (mj_Sp d) (0 < d) P R) {x1 : Int32} {x2 : Int32} {x3 : Int32} {x4 : Int32} {o5 : Option mj_V} {M : mj_M} (h :
  vp_in ((nI 42) + x1) 76 ∧ ((mj_rd M (14, 61, 0) ((nI 42) + x1).toNatClampNeg) < x4 →
  R (some (mj_i (-(nI 4)))) M) ∧
  (¬ (mj_rd M (14, 61, 0) ((nI 42) + x1).toNatClampNeg) < x4 →
  ∃ (y_2 : Int32) (M_1 : mj_M), mj_Sp d 126 [mj_r (30, 60, 0), mj_i x4] M (some (mj_i y_2)) M_1 ∧
    P 61 [some (mj_r (30, 60, 0)), some (mj_i x1), some (mj_i x2), some (mj_i x3), some (mj_i x4), some (mj_i y_2)] [] M_1)) : P 39 [some (mj_r (30, 60, 0)), some (mj_i x1), some (mj_i x2), some (mj_i x3), some (mj_i x4), o5] [] M :=
  hP 39 _ _ _ ⟨rfl, ⟨h.1, ⟨fun c1 => hP 106 _ _ _ (h.2.1 c1), fun c1 => ⟨rfl, Exists.elim (h.2.2 c1) fun e2 g2 => Exists.elim g2 fun a2 b2 => ⟨e2, a2, b2.1, hP 59 _ _ _ ⟨rfl, b2.2⟩⟩⟩⟩⟩⟩
theorem rg_m_fewest_61 {d : Nat} {P : Nat → mj_L → List mj_V → mj_M → Prop} {R : Option mj_V → mj_M → Prop} (hP : mj_Cl mj_c130 (mj_Sp d) (0 < d) P R) {x1 : Int32} {x2 : Int32} {x3 : Int32} {x4 : Int32} {x5 : Int32} {M : mj_M} (h :
  (x5 = 0 →
  ∀ x4_1 : Int32, x4_1 = x4 + (nI 1) → P 39 [some (mj_r (30, 60, 0)), some (mj_i x1), some (mj_i x2), some (mj_i x3), some (mj_i x4_1), some (mj_i x5)] [] M) ∧
  (¬ x5 = 0 →
  ∃ (y_3 : Int32) (M_2 : mj_M), mj_Sp d 129 [mj_r (30, 60, 0), mj_i x1, mj_i x2] M (some (mj_i y_3)) M_2 ∧
    (y_3 = 0 →
    ∃ (y_5 : Int32) (M_4 : mj_M), mj_Sp d 128 [mj_r (30, 60, 0)] M_2 (some (mj_i y_5)) M_4 ∧
      P 61 [some (mj_r (30, 60, 0)), some (mj_i x1), some (mj_i x2), some (mj_i x3), some (mj_i x4), some (mj_i y_5)] [] M_4) ∧
    (¬ y_3 = 0 →
    (0 ≤ x3 →
      vp_in x3 6 ∧ R (some (mj_i (M_2 33 66 0 x3.toNatClampNeg))) M_2) ∧
      (¬ 0 ≤ x3 →
      R (some (mj_i x4)) M_2)))) : P 61 [some (mj_r (30, 60, 0)), some (mj_i x1), some (mj_i x2), some (mj_i x3), some (mj_i x4), some (mj_i x5)] [] M :=
  hP 61 _ _ _ ⟨fun c1 => hP 100 _ _ _ ⟨rfl, ((h.1 c1) _ rfl)⟩, fun c1 => ⟨rfl, Exists.elim (h.2 c1) fun e2 g2 => Exists.elim g2 fun a2 b2 => ⟨e2, a2, b2.1, hP 72 _ _ _ ⟨fun c3 => hP 91 _ _ _ ⟨rfl, Exists.elim (b2.2.1 c3) fun e4 g4 => Exists.elim g4 fun a4 b4 => ⟨e4, a4, b4.1, hP 95 _ _ _ ⟨rfl, b4.2⟩⟩⟩, fun c3 => ⟨fun c5 => hP 84 _ _ _ ⟨rfl, ⟨((b2.2.2 c3).1 c5).1, hP 90 _ _ _ (((b2.2.2 c3).1 c5).2)⟩⟩, fun c5 => hP 90 _ _ _ ((b2.2.2 c3).2 c5)⟩⟩⟩⟩⟩
theorem rg_m_lays_0 {d : Nat} {P : Nat → mj_L → List mj_V → mj_M → Prop} {R : Option mj_V → mj_M → Prop} (hP : mj_Cl mj_c131 (mj_Sp d) (0 < d) P R) {x1 : Int32} {x2 : Int32} {M : mj_M} (h :
  P 2 [some (mj_r (30, 60, 0)), some (mj_i x1), some (mj_i x2), some (mj_i (nI 0))] [] M) : P 0 [some (mj_r (30, 60, 0)), some (mj_i x1), some (mj_i x2), none] [] M :=
  hP 0 _ _ _ ⟨rfl, h⟩
theorem rg_m_lays_2 {d : Nat} {P : Nat → mj_L → List mj_V → mj_M → Prop} {R : Option mj_V → mj_M → Prop} (hP : mj_Cl mj_c131 (mj_Sp d) (0 < d) P R) {x1 : Int32} {x2 : Int32} {x3 : Int32} {M : mj_M} (h :
  ((nI 6) ≤ x3 →
  ((nI 6) ≤ x2 →
    R none M) ∧
    (¬ (nI 6) ≤ x2 →
    vp_in ((nI 42) + x1) 76 ∧ vp_in (((nI 18) + ((nI 6) * x1)) + x2) 76 ∧ ∀ M_1 : mj_M, M_1 = mj_wr M (14, 61, 0) (((nI 18) + ((nI 6) * x1)) + x2).toNatClampNeg (mj_rd M (14, 61, 0) ((nI 42) + x1).toNatClampNeg) → R none M_1)) ∧
  (¬ (nI 6) ≤ x3 →
  vp_in (((nI 18) + ((nI 6) * x1)) + x3) 76 ∧ ∀ M_2 : mj_M, M_2 = mj_wr M (14, 61, 0) (((nI 18) + ((nI 6) * x1)) + x3).toNatClampNeg (nI 0) → ∀ x3_3 : Int32, x3_3 = x3 + (nI 1) → P 2 [some (mj_r (30, 60, 0)), some (mj_i x1), some (mj_i x2), some (mj_i x3_3)] [] M_2)) : P 2 [some (mj_r (30, 60, 0)), some (mj_i x1), some (mj_i x2), some (mj_i x3)] [] M :=
  hP 2 _ _ _ ⟨fun c1 => hP 29 _ _ _ ⟨fun c2 => hP 58 _ _ _ ((h.1 c1).1 c2), fun c2 => ⟨rfl, ⟨rfl, ⟨((h.1 c1).2 c2).1, ⟨rfl, ⟨((h.1 c1).2 c2).2.1, hP 58 _ _ _ (((h.1 c1).2 c2).2.2 _ rfl)⟩⟩⟩⟩⟩⟩, fun c1 => ⟨rfl, ⟨rfl, ⟨(h.2 c1).1, ⟨rfl, (((h.2 c1).2 _ rfl) _ rfl)⟩⟩⟩⟩⟩
theorem rg_m_isChoice_0 {d : Nat} {P : Nat → mj_L → List mj_V → mj_M → Prop} {R : Option mj_V → mj_M → Prop} (hP : mj_Cl mj_c132 (mj_Sp d) (0 < d) P R) {x1 : Int32} {M : mj_M} (h :
  (x1 = (nI 6) →
  R (some (mj_i (nI 1))) M) ∧
  (¬ x1 = (nI 6) →
  ((M 14 0 0 0) ≤ x1 →
    R (some (mj_i (nI 0))) M) ∧
    (¬ (M 14 0 0 0) ≤ x1 →
    ∃ (y_2 : Int32) (M_1 : mj_M), mj_Sp d 89 [mj_r (30, 60, 0), mj_i x1] M (some (mj_i y_2)) M_1 ∧
      (y_2 = 0 →
      R (some (mj_i (nI 0))) M_1) ∧
      (¬ y_2 = 0 →
      R (some (mj_i (nI 1))) M_1)))) : P 0 [some (mj_r (30, 60, 0)), some (mj_i x1)] [] M :=
  hP 0 _ _ _ ⟨fun c1 => hP 22 _ _ _ (hP 27 _ _ _ ⟨(Or.inr rfl), (h.1 c1)⟩), fun c1 => ⟨rfl, ⟨fun c2 => hP 26 _ _ _ (hP 27 _ _ _ ⟨(Or.inl rfl), ((h.2 c1).1 c2)⟩), fun c2 => ⟨rfl, Exists.elim ((h.2 c1).2 c2) fun e3 g3 => Exists.elim g3 fun a3 b3 => ⟨e3, a3, b3.1, hP 19 _ _ _ ⟨fun c4 => hP 26 _ _ _ (hP 27 _ _ _ ⟨(Or.inl rfl), (b3.2.1 c4)⟩), fun c4 => hP 22 _ _ _ (hP 27 _ _ _ ⟨(Or.inr rfl), (b3.2.2 c4)⟩)⟩⟩⟩⟩⟩⟩
theorem rg_m_tug_0 {d : Nat} {P : Nat → mj_L → List mj_V → mj_M → Prop} {R : Option mj_V → mj_M → Prop} (hP : mj_Cl mj_c133 (mj_Sp d) (0 < d) P R) {x1 : Int32} {x2 : Int32} {x3 : Int32} {x4 : Int32} {M : mj_M} (h :
  ∃ (y_2 : Int32) (M_1 : mj_M), mj_Sp d 88 [mj_r (30, 60, 0), mj_i x1] M (some (mj_i y_2)) M_1 ∧
  (y_2 = 0 →
  R (some (mj_i (-(nI 1)))) M_1) ∧
  (¬ y_2 = 0 →
  ∃ (y_4 : Int32) (M_3 : mj_M), mj_Sp d 88 [mj_r (30, 60, 0), mj_i x2] M_1 (some (mj_i y_4)) M_3 ∧
    (y_4 = 0 →
    R (some (mj_i (-(nI 1)))) M_3) ∧
    (¬ y_4 = 0 →
    (x1 = x2 →
      R (some (mj_i (-(nI 1)))) M_3) ∧
      (¬ x1 = x2 →
      ∃ (y_6 : Int32) (M_5 : mj_M), mj_Sp d 86 [mj_l x3.toInt64, mj_l (lN 1), mj_l (lN 12)] M_3 (some (mj_i y_6)) M_5 ∧
        (y_6 = 0 →
        R (some (mj_i (-(nI 1)))) M_5) ∧
        (¬ y_6 = 0 →
        ∃ (y_8 : Int32) (M_7 : mj_M), mj_Sp d 86 [mj_l x4.toInt64, mj_l (lN 0), mj_l (lN 1)] M_5 (some (mj_i y_8)) M_7 ∧
          (¬ y_8 = 0 →
          P 49 [some (mj_r (30, 60, 0)), some (mj_i x1), some (mj_i x2), some (mj_i x3), some (mj_i x4), some (mj_i (nI 0)), none, none, none, none] [] M_7) ∧
          (¬ ¬ y_8 = 0 →
          R (some (mj_i (-(nI 1)))) M_7)))))) : P 0 [some (mj_r (30, 60, 0)), some (mj_i x1), some (mj_i x2), some (mj_i x3), some (mj_i x4), none, none, none, none, none] [] M :=
  hP 0 _ _ _ ⟨rfl, Exists.elim h fun e1 g1 => Exists.elim g1 fun a1 b1 => ⟨e1, a1, b1.1, hP 5 _ _ _ ⟨fun c2 => hP 44 _ _ _ (b1.2.1 c2), fun c2 => ⟨rfl, Exists.elim (b1.2.2 c2) fun e3 g3 => Exists.elim g3 fun a3 b3 => ⟨e3, a3, b3.1, hP 13 _ _ _ ⟨fun c4 => hP 44 _ _ _ (b3.2.1 c4), fun c4 => ⟨fun c5 => hP 44 _ _ _ ((b3.2.2 c4).1 c5), fun c5 => ⟨rfl, Exists.elim ((b3.2.2 c4).2 c5) fun e6 g6 => Exists.elim g6 fun a6 b6 => ⟨e6, a6, b6.1, hP 30 _ _ _ ⟨fun c7 => hP 44 _ _ _ (b6.2.1 c7), fun c7 => ⟨rfl, Exists.elim (b6.2.2 c7) fun e8 g8 => Exists.elim g8 fun a8 b8 => ⟨e8, a8, b8.1, hP 41 _ _ _ ⟨fun c9 => hP 46 _ _ _ ⟨rfl, (b8.2.1 c9)⟩, fun c9 => hP 44 _ _ _ (b8.2.2 c9)⟩⟩⟩⟩⟩⟩⟩⟩⟩⟩⟩⟩⟩
theorem rg_m_tug_49 {d : Nat} {P : Nat → mj_L → List mj_V → mj_M → Prop} {R : Option mj_V → mj_M → Prop} (hP : mj_Cl mj_c133 (mj_Sp d) (0 < d) P R) {x1 : Int32} {x2 : Int32} {x3 : Int32} {x4 : Int32} {x5 : Int32} {M : mj_M} (h :
  ((nI 49) ≤ x5 →
  P 179 [some (mj_r (30, 60, 0)), some (mj_i x1), some (mj_i x2), some (mj_i x3), some (mj_i x4), some (mj_i (nI 0)), some (mj_i (-(nI 4))), some (mj_i (nI 48)), none, none] [] M) ∧
  (¬ (nI 49) ≤ x5 →
  vp_in x5 49 ∧ ∀ M_1 : mj_M, M_1 = mj_wl M (33, 67, 0, x5.toNatClampNeg) (-(nI 1)) → vp_in x5 49 ∧ ∀ M_2 : mj_M, M_2 = mj_wl M_1 (33, 68, 0, x5.toNatClampNeg) (-(nI 1)) → ¬ (nI 7) = 0 ∧ ∃ (y_4 : Int32) (M_3 : mj_M), mj_Sp d 132 [mj_r (30, 60, 0), mj_i (x5 / (nI 7))] M_2 (some (mj_i y_4)) M_3 ∧
    (y_4 = 0 →
    ∀ x5_5 : Int32, x5_5 = x5 + (nI 1) → P 49 [some (mj_r (30, 60, 0)), some (mj_i x1), some (mj_i x2), some (mj_i x3), some (mj_i x4), some (mj_i x5_5), none, none, none, none] [] M_3) ∧
    (¬ y_4 = 0 →
    ¬ (nI 7) = 0 ∧ ∃ (y_7 : Int32) (M_6 : mj_M), mj_Sp d 132 [mj_r (30, 60, 0), mj_i (x5 % (nI 7))] M_3 (some (mj_i y_7)) M_6 ∧
      (y_7 = 0 →
      ∀ x5_8 : Int32, x5_8 = x5 + (nI 1) → P 49 [some (mj_r (30, 60, 0)), some (mj_i x1), some (mj_i x2), some (mj_i x3), some (mj_i x4), some (mj_i x5_8), none, none, none, none] [] M_6) ∧
      (¬ y_7 = 0 →
      ∃ M_9 : mj_M, mj_Sp d 122 [mj_r (30, 60, 0)] M_6 none M_9 ∧
        ¬ (nI 7) = 0 ∧ ∃ M_10 : mj_M, mj_Sp d 131 [mj_r (30, 60, 0), mj_i x1, mj_i (x5 / (nI 7))] M_9 none M_10 ∧
        ¬ (nI 7) = 0 ∧ ∃ M_11 : mj_M, mj_Sp d 131 [mj_r (30, 60, 0), mj_i x2, mj_i (x5 % (nI 7))] M_10 none M_11 ∧
        ∃ (y_13 : Int32) (M_12 : mj_M), mj_Sp d 118 [mj_r (30, 60, 0), mj_i x3] M_11 (some (mj_i y_13)) M_12 ∧
        vp_in ((nI 46) + x1) 76 ∧ vp_in x5 49 ∧ ∀ M_14 : mj_M, M_14 = mj_wl M_12 (33, 67, 0, x5.toNatClampNeg) (mj_rd M_12 (14, 61, 0) ((nI 46) + x1).toNatClampNeg) → vp_in ((nI 46) + x2) 76 ∧ vp_in x5 49 ∧ ∀ M_15 : mj_M, M_15 = mj_wl M_14 (33, 68, 0, x5.toNatClampNeg) (mj_rd M_14 (14, 61, 0) ((nI 46) + x2).toNatClampNeg) → ∃ M_16 : mj_M, mj_Sp d 123 [mj_r (30, 60, 0)] M_15 none M_16 ∧
        ∀ x5_17 : Int32, x5_17 = x5 + (nI 1) → P 49 [some (mj_r (30, 60, 0)), some (mj_i x1), some (mj_i x2), some (mj_i x3), some (mj_i x4), some (mj_i x5_17), none, none, none, none] [] M_16)))) : P 49 [some (mj_r (30, 60, 0)), some (mj_i x1), some (mj_i x2), some (mj_i x3), some (mj_i x4), some (mj_i x5), none, none, none, none] [] M :=
  hP 49 _ _ _ ⟨fun c1 => hP 168 _ _ _ ⟨rfl, ⟨rfl, ⟨rfl, (h.1 c1)⟩⟩⟩, fun c1 => ⟨rfl, ⟨rfl, ⟨(h.2 c1).1, ⟨rfl, ⟨rfl, ⟨((h.2 c1).2 _ rfl).1, ⟨(((h.2 c1).2 _ rfl).2 _ rfl).1, ⟨rfl, Exists.elim ((((h.2 c1).2 _ rfl).2 _ rfl).2) fun e2 g2 => Exists.elim g2 fun a2 b2 => ⟨e2, a2, b2.1, hP 81 _ _ _ ⟨fun c3 => hP 162 _ _ _ ⟨rfl, ((b2.2.1 c3) _ rfl)⟩, fun c3 => ⟨(b2.2.2 c3).1, ⟨rfl, Exists.elim ((b2.2.2 c3).2) fun e4 g4 => Exists.elim g4 fun a4 b4 => ⟨e4, a4, b4.1, hP 93 _ _ _ ⟨fun c5 => hP 162 _ _ _ ⟨rfl, ((b4.2.1 c5) _ rfl)⟩, fun c5 => ⟨rfl, Exists.elim (b4.2.2 c5) fun a6 b6 => ⟨a6, b6.1, hP 100 _ _ _ ⟨b6.2.1, ⟨rfl, Exists.elim b6.2.2 fun a7 b7 => ⟨a7, b7.1, hP 110 _ _ _ ⟨b7.2.1, ⟨rfl, Exists.elim b7.2.2 fun a8 b8 => ⟨a8, b8.1, hP 120 _ _ _ ⟨rfl, Exists.elim b8.2 fun e9 g9 => Exists.elim g9 fun a9 b9 => ⟨e9, a9, b9.1, hP 125 _ _ _ ⟨rfl, ⟨rfl, ⟨b9.2.1, ⟨rfl, ⟨b9.2.2.1, ⟨rfl, ⟨rfl, ⟨(b9.2.2.2 _ rfl).1, ⟨rfl, ⟨(b9.2.2.2 _ rfl).2.1, ⟨rfl, Exists.elim ((b9.2.2.2 _ rfl).2.2 _ rfl) fun a10 b10 => ⟨a10, b10.1, hP 162 _ _ _ ⟨rfl, (b10.2 _ rfl)⟩⟩⟩⟩⟩⟩⟩⟩⟩⟩⟩⟩⟩⟩⟩⟩⟩⟩⟩⟩⟩⟩⟩⟩⟩⟩⟩⟩⟩⟩⟩⟩⟩⟩⟩⟩⟩⟩
theorem rg_m_tug_179 {d : Nat} {P : Nat → mj_L → List mj_V → mj_M → Prop} {R : Option mj_V → mj_M → Prop} (hP : mj_Cl mj_c133 (mj_Sp d) (0 < d) P R) {x1 : Int32} {x2 : Int32} {x3 : Int32} {x4 : Int32} {x5 : Int32} {x6 : Int32} {x7 : Int32} {o8 : Option mj_V} {o9 : Option mj_V} {M : mj_M} (h :
  (x7 < 0 →
  (¬ x4 = 0 →
    R (some (mj_i x6)) M) ∧
    (¬ ¬ x4 = 0 →
    R (some (mj_i x5)) M)) ∧
  (¬ x7 < 0 →
  vp_in x7 49 ∧ ((M 33 67 0 x7.toNatClampNeg) < 0 →
    P 204 [some (mj_r (30, 60, 0)), some (mj_i x1), some (mj_i x2), some (mj_i x3), some (mj_i x4), some (mj_i x5), some (mj_i x6), some (mj_i x7), some (mj_i (nI 0)), some (mj_i (nI 0))] [] M) ∧
    (¬ (M 33 67 0 x7.toNatClampNeg) < 0 →
    P 204 [some (mj_r (30, 60, 0)), some (mj_i x1), some (mj_i x2), some (mj_i x3), some (mj_i x4), some (mj_i x5), some (mj_i x6), some (mj_i x7), some (mj_i (nI 1)), some (mj_i (nI 0))] [] M))) : P 179 [some (mj_r (30, 60, 0)), some (mj_i x1), some (mj_i x2), some (mj_i x3), some (mj_i x4), some (mj_i x5), some (mj_i x6), some (mj_i x7), o8, o9] [] M :=
  hP 179 _ _ _ ⟨fun c1 => hP 328 _ _ _ ⟨fun c2 => hP 338 _ _ _ (hP 340 _ _ _ ((h.1 c1).1 c2)), fun c2 => hP 340 _ _ _ ((h.1 c1).2 c2)⟩, fun c1 => ⟨rfl, ⟨(h.2 c1).1, ⟨fun c3 => hP 198 _ _ _ (hP 199 _ _ _ ⟨rfl, ⟨rfl, ((h.2 c1).2.1 c3)⟩⟩), fun c3 => hP 199 _ _ _ ⟨rfl, ⟨rfl, ((h.2 c1).2.2 c3)⟩⟩⟩⟩⟩⟩
theorem rg_m_tug_204 {d : Nat} {P : Nat → mj_L → List mj_V → mj_M → Prop} {R : Option mj_V → mj_M → Prop} (hP : mj_Cl mj_c133 (mj_Sp d) (0 < d) P R) {x1 : Int32} {x2 : Int32} {x3 : Int32} {x4 : Int32} {x5 : Int32} {x6 : Int32} {x7 : Int32} {x8 : Int32} {x9 : Int32} {M : mj_M} (h :
  ((nI 7) ≤ x9 →
  (x8 = 0 →
    ∀ x5_1 : Int32, x5_1 = x5 + (nI 0) → (x8 = 0 →
      ∀ x7_2 : Int32, x7_2 = x7 + (-(nI 1)) → P 179 [some (mj_r (30, 60, 0)), some (mj_i x1), some (mj_i x2), some (mj_i x3), some (mj_i x4), some (mj_i x5_1), some (mj_i x6), some (mj_i x7_2), some (mj_i x8), some (mj_i x9)] [] M) ∧
      (¬ x8 = 0 →
      ¬ (nI 7) = 0 ∧ ¬ (nI 7) = 0 ∧ ∀ x6_3 : Int32, x6_3 = ((nI 10) * (x7 / (nI 7))) + (x7 % (nI 7)) → ∀ x7_4 : Int32, x7_4 = x7 + (-(nI 1)) → P 179 [some (mj_r (30, 60, 0)), some (mj_i x1), some (mj_i x2), some (mj_i x3), some (mj_i x4), some (mj_i x5_1), some (mj_i x6_3), some (mj_i x7_4), some (mj_i x8), some (mj_i x9)] [] M)) ∧
    (¬ x8 = 0 →
    ∀ x5_5 : Int32, x5_5 = x5 + (nI 1) → (x8 = 0 →
      ∀ x7_6 : Int32, x7_6 = x7 + (-(nI 1)) → P 179 [some (mj_r (30, 60, 0)), some (mj_i x1), some (mj_i x2), some (mj_i x3), some (mj_i x4), some (mj_i x5_5), some (mj_i x6), some (mj_i x7_6), some (mj_i x8), some (mj_i x9)] [] M) ∧
      (¬ x8 = 0 →
      ¬ (nI 7) = 0 ∧ ¬ (nI 7) = 0 ∧ ∀ x6_7 : Int32, x6_7 = ((nI 10) * (x7 / (nI 7))) + (x7 % (nI 7)) → ∀ x7_8 : Int32, x7_8 = x7 + (-(nI 1)) → P 179 [some (mj_r (30, 60, 0)), some (mj_i x1), some (mj_i x2), some (mj_i x3), some (mj_i x4), some (mj_i x5_5), some (mj_i x6_7), some (mj_i x7_8), some (mj_i x8), some (mj_i x9)] [] M))) ∧
  (¬ (nI 7) ≤ x9 →
  (x8 = 0 →
    ∀ x9_9 : Int32, x9_9 = x9 + (nI 1) → P 204 [some (mj_r (30, 60, 0)), some (mj_i x1), some (mj_i x2), some (mj_i x3), some (mj_i x4), some (mj_i x5), some (mj_i x6), some (mj_i x7), some (mj_i (nI 0)), some (mj_i x9_9)] [] M) ∧
    (¬ x8 = 0 →
    ¬ (nI 7) = 0 ∧ vp_in (((nI 7) * x9) + (x7 % (nI 7))) 49 ∧ vp_in x7 49 ∧ ((M 33 67 0 x7.toNatClampNeg) < (M 33 67 0 (((nI 7) * x9) + (x7 % (nI 7))).toNatClampNeg) →
      ∀ x9_10 : Int32, x9_10 = x9 + (nI 1) → P 204 [some (mj_r (30, 60, 0)), some (mj_i x1), some (mj_i x2), some (mj_i x3), some (mj_i x4), some (mj_i x5), some (mj_i x6), some (mj_i x7), some (mj_i (nI 0)), some (mj_i x9_10)] [] M) ∧
      (¬ (M 33 67 0 x7.toNatClampNeg) < (M 33 67 0 (((nI 7) * x9) + (x7 % (nI 7))).toNatClampNeg) →
      ¬ (nI 7) = 0 ∧ vp_in (((nI 7) * (x7 / (nI 7))) + x9) 49 ∧ vp_in x7 49 ∧ ((M 33 68 0 x7.toNatClampNeg) < (M 33 68 0 (((nI 7) * (x7 / (nI 7))) + x9).toNatClampNeg) →
        ∀ x9_11 : Int32, x9_11 = x9 + (nI 1) → P 204 [some (mj_r (30, 60, 0)), some (mj_i x1), some (mj_i x2), some (mj_i x3), some (mj_i x4), some (mj_i x5), some (mj_i x6), some (mj_i x7), some (mj_i (nI 0)), some (mj_i x9_11)] [] M) ∧
        (¬ (M 33 68 0 x7.toNatClampNeg) < (M 33 68 0 (((nI 7) * (x7 / (nI 7))) + x9).toNatClampNeg) →
        ∀ x9_12 : Int32, x9_12 = x9 + (nI 1) → P 204 [some (mj_r (30, 60, 0)), some (mj_i x1), some (mj_i x2), some (mj_i x3), some (mj_i x4), some (mj_i x5), some (mj_i x6), some (mj_i x7), some (mj_i (nI 1)), some (mj_i x9_12)] [] M))))) : P 204 [some (mj_r (30, 60, 0)), some (mj_i x1), some (mj_i x2), some (mj_i x3), some (mj_i x4), some (mj_i x5), some (mj_i x6), some (mj_i x7), some (mj_i x8), some (mj_i x9)] [] M :=
  hP 204 _ _ _ ⟨fun c1 => hP 281 _ _ _ ⟨fun c2 => hP 292 _ _ _ (hP 293 _ _ _ ⟨rfl, ⟨fun c3 => hP 318 _ _ _ (hP 320 _ _ _ ⟨rfl, ⟨rfl, (((((h.1 c1).1 c2) _ rfl).1 c3) _ rfl)⟩⟩), fun c3 => ⟨((((h.1 c1).1 c2) _ rfl).2 c3).1, ⟨((((h.1 c1).1 c2) _ rfl).2 c3).2.1, hP 320 _ _ _ ⟨rfl, ⟨rfl, ((((((h.1 c1).1 c2) _ rfl).2 c3).2.2 _ rfl) _ rfl)⟩⟩⟩⟩⟩⟩), fun c2 => hP 293 _ _ _ ⟨rfl, ⟨fun c4 => hP 318 _ _ _ (hP 320 _ _ _ ⟨rfl, ⟨rfl, (((((h.1 c1).2 c2) _ rfl).1 c4) _ rfl)⟩⟩), fun c4 => ⟨((((h.1 c1).2 c2) _ rfl).2 c4).1, ⟨((((h.1 c1).2 c2) _ rfl).2 c4).2.1, hP 320 _ _ _ ⟨rfl, ⟨rfl, ((((((h.1 c1).2 c2) _ rfl).2 c4).2.2 _ rfl) _ rfl)⟩⟩⟩⟩⟩⟩⟩, fun c1 => ⟨fun c5 => hP 272 _ _ _ (hP 273 _ _ _ ⟨rfl, ⟨rfl, (((h.2 c1).1 c5) _ rfl)⟩⟩), fun c5 => ⟨rfl, ⟨((h.2 c1).2 c5).1, ⟨((h.2 c1).2 c5).2.1, ⟨rfl, ⟨((h.2 c1).2 c5).2.2.1, ⟨fun c6 => hP 272 _ _ _ (hP 273 _ _ _ ⟨rfl, ⟨rfl, ((((h.2 c1).2 c5).2.2.2.1 c6) _ rfl)⟩⟩), fun c6 => ⟨rfl, ⟨(((h.2 c1).2 c5).2.2.2.2 c6).1, ⟨(((h.2 c1).2 c5).2.2.2.2 c6).2.1, ⟨rfl, ⟨(((h.2 c1).2 c5).2.2.2.2 c6).2.2.1, ⟨fun c7 => hP 272 _ _ _ (hP 273 _ _ _ ⟨rfl, ⟨rfl, (((((h.2 c1).2 c5).2.2.2.2 c6).2.2.2.1 c7) _ rfl)⟩⟩), fun c7 => hP 273 _ _ _ ⟨rfl, ⟨rfl, (((((h.2 c1).2 c5).2.2.2.2 c6).2.2.2.2 c7) _ rfl)⟩⟩⟩⟩⟩⟩⟩⟩⟩⟩⟩⟩⟩⟩⟩⟩
theorem rg_m_lay_0 {d : Nat} {P : Nat → mj_L → List mj_V → mj_M → Prop} {R : Option mj_V → mj_M → Prop} (hP : mj_Cl mj_c134 (mj_Sp d) (0 < d) P R) {q1 : mj_Id} {x2 : Int32} {M : mj_M} (h :
  P 2 [some (mj_r (30, 60, 0)), some (mj_r q1), some (mj_i x2), some (mj_i (nI 0))] [] M) : P 0 [some (mj_r (30, 60, 0)), some (mj_r q1), some (mj_i x2), none] [] M :=
  hP 0 _ _ _ ⟨rfl, h⟩
theorem rg_m_lay_2 {d : Nat} {P : Nat → mj_L → List mj_V → mj_M → Prop} {R : Option mj_V → mj_M → Prop} (hP : mj_Cl mj_c134 (mj_Sp d) (0 < d) P R) {q1 : mj_Id} {x2 : Int32} {x3 : Int32} {M : mj_M} (h :
  mj_ia q1.2.1 = true ∧ ((nI (mj_len M q1)) ≤ x3 →
  mj_ia q1.2.1 = true ∧ R (some (mj_i (x2 + (nI (mj_len M q1))))) M) ∧
  (¬ (nI (mj_len M q1)) ≤ x3 →
  vp_in x3 (mj_len M q1) ∧ vp_in (x2 + x3) 111 ∧ ∀ M_1 : mj_M, M_1 = mj_wr M (16, 62, 0) (x2 + x3).toNatClampNeg (mj_rd M q1 x3.toNatClampNeg) → ∀ x3_2 : Int32, x3_2 = x3 + (nI 1) → P 2 [some (mj_r (30, 60, 0)), some (mj_r q1), some (mj_i x2), some (mj_i x3_2)] [] M_1)) : P 2 [some (mj_r (30, 60, 0)), some (mj_r q1), some (mj_i x2), some (mj_i x3)] [] M :=
  hP 2 _ _ _ ⟨h.1, ⟨fun c1 => hP 25 _ _ _ ⟨(h.2.1 c1).1, (h.2.1 c1).2⟩, fun c1 => ⟨rfl, ⟨(h.2.2 c1).1, ⟨rfl, ⟨(h.2.2 c1).2.1, ⟨rfl, (((h.2.2 c1).2.2 _ rfl) _ rfl)⟩⟩⟩⟩⟩⟩⟩
theorem rg_m_gives_0 {d : Nat} {P : Nat → mj_L → List mj_V → mj_M → Prop} {R : Option mj_V → mj_M → Prop} (hP : mj_Cl mj_c135 (mj_Sp d) (0 < d) P R) {x1 : Int32} {q2 : mj_Id} {M : mj_M} (h :
  P 2 [some (mj_r (30, 60, 0)), some (mj_i x1), some (mj_r q2), some (mj_i (nI 0))] [] M) : P 0 [some (mj_r (30, 60, 0)), some (mj_i x1), some (mj_r q2), none] [] M :=
  hP 0 _ _ _ ⟨rfl, h⟩
theorem rg_m_gives_2 {d : Nat} {P : Nat → mj_L → List mj_V → mj_M → Prop} {R : Option mj_V → mj_M → Prop} (hP : mj_Cl mj_c135 (mj_Sp d) (0 < d) P R) {x1 : Int32} {q2 : mj_Id} {x3 : Int32} {M : mj_M} (h :
  mj_ia q2.2.1 = true ∧ ((nI (mj_len M q2)) ≤ x3 →
  mj_ia q2.2.1 = true ∧ R (some (mj_i (x1 + (nI (mj_len M q2))))) M) ∧
  (¬ (nI (mj_len M q2)) ≤ x3 →
  vp_in (x1 + x3) 111 ∧ Nat.blt q2.2.1 80 = true ∧ vp_in x3 (mj_len M q2) ∧ ∀ M_1 : mj_M, M_1 = mj_wr M q2 x3.toNatClampNeg (mj_rd M (16, 62, 0) (x1 + x3).toNatClampNeg) → ∀ x3_2 : Int32, x3_2 = x3 + (nI 1) → P 2 [some (mj_r (30, 60, 0)), some (mj_i x1), some (mj_r q2), some (mj_i x3_2)] [] M_1)) : P 2 [some (mj_r (30, 60, 0)), some (mj_i x1), some (mj_r q2), some (mj_i x3)] [] M :=
  hP 2 _ _ _ ⟨h.1, ⟨fun c1 => hP 25 _ _ _ ⟨(h.2.1 c1).1, (h.2.1 c1).2⟩, fun c1 => ⟨rfl, ⟨(h.2.2 c1).1, ⟨(h.2.2 c1).2.1, ⟨(h.2.2 c1).2.2.1, ⟨rfl, (((h.2.2 c1).2.2.2 _ rfl) _ rfl)⟩⟩⟩⟩⟩⟩⟩
theorem rg_m_image_0 {d : Nat} {P : Nat → mj_L → List mj_V → mj_M → Prop} {R : Option mj_V → mj_M → Prop} (hP : mj_Cl mj_c136 (mj_Sp d) (0 < d) P R)  {M : mj_M} (h :
  ∃ (y_2 : Int32) (M_1 : mj_M), mj_Sp d 134 [mj_r (30, 60, 0), mj_r (14, 61, 0), mj_i (nI 0)] M (some (mj_i y_2)) M_1 ∧
  ∃ (y_4 : Int32) (M_3 : mj_M), mj_Sp d 134 [mj_r (30, 60, 0), mj_r (14, 5, 0), mj_i y_2] M_1 (some (mj_i y_4)) M_3 ∧
  ∃ (y_6 : Int32) (M_5 : mj_M), mj_Sp d 134 [mj_r (30, 60, 0), mj_r (14, 7, 0), mj_i y_4] M_3 (some (mj_i y_6)) M_5 ∧
  ∃ (y_8 : Int32) (M_7 : mj_M), mj_Sp d 134 [mj_r (30, 60, 0), mj_r (34, 11, 0), mj_i y_6] M_5 (some (mj_i y_8)) M_7 ∧
  ∃ (y_10 : Int32) (M_9 : mj_M), mj_Sp d 134 [mj_r (30, 60, 0), mj_r (34, 12, 0), mj_i y_8] M_7 (some (mj_i y_10)) M_9 ∧
  vp_in y_10 111 ∧ ∀ M_11 : mj_M, M_11 = mj_wr M_9 (16, 62, 0) y_10.toNatClampNeg (M_9 14 0 0 0) → vp_in (y_10 + (nI 1)) 111 ∧ ∀ M_12 : mj_M, M_12 = mj_wr M_11 (16, 62, 0) (y_10 + (nI 1)).toNatClampNeg (M_11 14 0 0 1) → vp_in (y_10 + (nI 2)) 111 ∧ ∀ M_13 : mj_M, M_13 = mj_wr M_12 (16, 62, 0) (y_10 + (nI 2)).toNatClampNeg (M_12 34 10 0 0) → ∀ M_14 : mj_M, M_14 = mj_wl M_13 (31, 63, 0, 0) (nI 1) → ∀ M_15 : mj_M, M_15 = mj_wl M_14 (16, 0, 0, 3) (M_14 14 0 0 3) → R (some (mj_i (nI 1))) M_15) : P 0 [some (mj_r (30, 60, 0)), none] [] M :=
  hP 0 _ _ _ ⟨rfl, ⟨rfl, Exists.elim h fun e1 g1 => Exists.elim g1 fun a1 b1 => ⟨e1, a1, b1.1, hP 9 _ _ _ ⟨rfl, ⟨rfl, ⟨rfl, Exists.elim b1.2 fun e2 g2 => Exists.elim g2 fun a2 b2 => ⟨e2, a2, b2.1, hP 19 _ _ _ ⟨rfl, ⟨rfl, ⟨rfl, Exists.elim b2.2 fun e3 g3 => Exists.elim g3 fun a3 b3 => ⟨e3, a3, b3.1, hP 29 _ _ _ ⟨rfl, ⟨rfl, ⟨rfl, Exists.elim b3.2 fun e4 g4 => Exists.elim g4 fun a4 b4 => ⟨e4, a4, b4.1, hP 39 _ _ _ ⟨rfl, ⟨rfl, ⟨rfl, Exists.elim b4.2 fun e5 g5 => Exists.elim g5 fun a5 b5 => ⟨e5, a5, b5.1, hP 49 _ _ _ ⟨rfl, ⟨rfl, ⟨rfl, ⟨rfl, ⟨b5.2.1, ⟨rfl, ⟨rfl, ⟨rfl, ⟨(b5.2.2 _ rfl).1, ⟨rfl, ⟨rfl, ⟨rfl, ⟨((b5.2.2 _ rfl).2 _ rfl).1, ⟨rfl, ⟨(Or.inr rfl), ⟨rfl, ⟨rfl, (((((b5.2.2 _ rfl).2 _ rfl).2 _ rfl) _ rfl) _ rfl)⟩⟩⟩⟩⟩⟩⟩⟩⟩⟩⟩⟩⟩⟩⟩⟩⟩⟩⟩⟩⟩⟩⟩⟩⟩⟩⟩⟩⟩⟩⟩⟩⟩⟩⟩⟩
theorem rg_m_restore_0 {d : Nat} {P : Nat → mj_L → List mj_V → mj_M → Prop} {R : Option mj_V → mj_M → Prop} (hP : mj_Cl mj_c137 (mj_Sp d) (0 < d) P R)  {M : mj_M} (h :
  (¬ (M 31 63 0 0) = 0 →
  ∃ (y_2 : Int32) (M_1 : mj_M), mj_Sp d 135 [mj_r (30, 60, 0), mj_i (nI 0), mj_r (14, 61, 0)] M (some (mj_i y_2)) M_1 ∧
    ∃ (y_4 : Int32) (M_3 : mj_M), mj_Sp d 135 [mj_r (30, 60, 0), mj_i y_2, mj_r (14, 5, 0)] M_1 (some (mj_i y_4)) M_3 ∧
    ∃ (y_6 : Int32) (M_5 : mj_M), mj_Sp d 135 [mj_r (30, 60, 0), mj_i y_4, mj_r (14, 7, 0)] M_3 (some (mj_i y_6)) M_5 ∧
    ∃ (y_8 : Int32) (M_7 : mj_M), mj_Sp d 135 [mj_r (30, 60, 0), mj_i y_6, mj_r (34, 11, 0)] M_5 (some (mj_i y_8)) M_7 ∧
    ∃ (y_10 : Int32) (M_9 : mj_M), mj_Sp d 135 [mj_r (30, 60, 0), mj_i y_8, mj_r (34, 12, 0)] M_7 (some (mj_i y_10)) M_9 ∧
    vp_in y_10 111 ∧ ∀ M_11 : mj_M, M_11 = mj_wl M_9 (14, 0, 0, 0) (mj_rd M_9 (16, 62, 0) y_10.toNatClampNeg) → vp_in (y_10 + (nI 1)) 111 ∧ ∀ M_12 : mj_M, M_12 = mj_wl M_11 (14, 0, 0, 1) (mj_rd M_11 (16, 62, 0) (y_10 + (nI 1)).toNatClampNeg) → vp_in (y_10 + (nI 2)) 111 ∧ ∀ M_13 : mj_M, M_13 = mj_wl M_12 (34, 10, 0, 0) (mj_rd M_12 (16, 62, 0) (y_10 + (nI 2)).toNatClampNeg) → ∀ M_14 : mj_M, M_14 = mj_wl M_13 (14, 0, 0, 3) (M_13 16 0 0 3) → R (some (mj_i (nI 1))) M_14) ∧
  (¬ ¬ (M 31 63 0 0) = 0 →
  R (some (mj_i (-(nI 4)))) M)) : P 0 [some (mj_r (30, 60, 0)), none] [] M :=
  hP 0 _ _ _ ⟨rfl, ⟨fun c1 => hP 10 _ _ _ ⟨rfl, ⟨rfl, Exists.elim (h.1 c1) fun e2 g2 => Exists.elim g2 fun a2 b2 => ⟨e2, a2, b2.1, hP 19 _ _ _ ⟨rfl, ⟨rfl, ⟨rfl, Exists.elim b2.2 fun e3 g3 => Exists.elim g3 fun a3 b3 => ⟨e3, a3, b3.1, hP 29 _ _ _ ⟨rfl, ⟨rfl, ⟨rfl, Exists.elim b3.2 fun e4 g4 => Exists.elim g4 fun a4 b4 => ⟨e4, a4, b4.1, hP 39 _ _ _ ⟨rfl, ⟨rfl, ⟨rfl, Exists.elim b4.2 fun e5 g5 => Exists.elim g5 fun a5 b5 => ⟨e5, a5, b5.1, hP 49 _ _ _ ⟨rfl, ⟨rfl, ⟨rfl, Exists.elim b5.2 fun e6 g6 => Exists.elim g6 fun a6 b6 => ⟨e6, a6, b6.1, hP 59 _ _ _ ⟨rfl, ⟨rfl, ⟨b6.2.1, ⟨rfl, ⟨rfl, ⟨(b6.2.2 _ rfl).1, ⟨rfl, ⟨rfl, ⟨((b6.2.2 _ rfl).2 _ rfl).1, ⟨rfl, ⟨rfl, ⟨rfl, ((((b6.2.2 _ rfl).2 _ rfl).2 _ rfl) _ rfl)⟩⟩⟩⟩⟩⟩⟩⟩⟩⟩⟩⟩⟩⟩⟩⟩⟩⟩⟩⟩⟩⟩⟩⟩⟩⟩⟩⟩⟩⟩⟩, fun c1 => (h.2 c1)⟩⟩
theorem rg_m_isSheet_0 {d : Nat} {P : Nat → mj_L → List mj_V → mj_M → Prop} {R : Option mj_V → mj_M → Prop} (hP : mj_Cl mj_c138 (mj_Sp d) (0 < d) P R) {x0 : Int32} {M : mj_M} (h :
  ∃ (y_2 : Int32) (M_1 : mj_M), mj_Sp d 86 [mj_l x0.toInt64, mj_l (lN 0), mj_l (lN 3)] M (some (mj_i y_2)) M_1 ∧
  (y_2 = 0 ∨ y_2 = 1) ∧ R (some (mj_i y_2)) M_1) : P 0 [some (mj_i x0)] [] M :=
  hP 0 _ _ _ ⟨rfl, Exists.elim h fun e1 g1 => Exists.elim g1 fun a1 b1 => ⟨e1, a1, b1.1, hP 9 _ _ _ ⟨b1.2.1, b1.2.2⟩⟩⟩
theorem rg_m_isLane_0 {d : Nat} {P : Nat → mj_L → List mj_V → mj_M → Prop} {R : Option mj_V → mj_M → Prop} (hP : mj_Cl mj_c139 (mj_Sp d) (0 < d) P R) {x0 : Int32} {M : mj_M} (h :
  ∃ (y_2 : Int32) (M_1 : mj_M), mj_Sp d 86 [mj_l x0.toInt64, mj_l (lN 0), mj_l (lN 2)] M (some (mj_i y_2)) M_1 ∧
  (y_2 = 0 ∨ y_2 = 1) ∧ R (some (mj_i y_2)) M_1) : P 0 [some (mj_i x0)] [] M :=
  hP 0 _ _ _ ⟨rfl, Exists.elim h fun e1 g1 => Exists.elim g1 fun a1 b1 => ⟨e1, a1, b1.1, hP 9 _ _ _ ⟨b1.2.1, b1.2.2⟩⟩⟩
theorem rg_m_why_0 {d : Nat} {P : Nat → mj_L → List mj_V → mj_M → Prop} {R : Option mj_V → mj_M → Prop} (hP : mj_Cl mj_c140 (mj_Sp d) (0 < d) P R) {x1 : Int32} {x2 : Int32} {x3 : Int32} {x4 : Int32} {M : mj_M} (h :
  vp_in x1 4 ∧ (0 ≤ (M 35 69 0 x1.toNatClampNeg) →
  vp_in x1 4 ∧ ((M 35 69 0 x1.toNatClampNeg) = x2 →
    (x3 < 0 →
      R (some (mj_i (-(nI 13)))) M) ∧
      (¬ x3 < 0 →
      vp_in x1 4 ∧ ((lg_cmp (x3.toInt64 + x4.toInt64) ((M 35 70 0 x1.toNatClampNeg).toInt64)) ≤ 0 →
        R (some (mj_i (nI 0))) M) ∧
        (¬ (lg_cmp (x3.toInt64 + x4.toInt64) ((M 35 70 0 x1.toNatClampNeg).toInt64)) ≤ 0 →
        R (some (mj_i (-(nI 13)))) M))) ∧
    (¬ (M 35 69 0 x1.toNatClampNeg) = x2 →
    R (some (mj_i (-(nI 12)))) M)) ∧
  (¬ 0 ≤ (M 35 69 0 x1.toNatClampNeg) →
  R (some (mj_i (-(nI 11)))) M)) : P 0 [some (mj_r (30, 60, 0)), some (mj_i x1), some (mj_i x2), some (mj_i x3), some (mj_i x4)] [] M :=
  hP 0 _ _ _ ⟨rfl, ⟨h.1, ⟨fun c1 => hP 12 _ _ _ ⟨rfl, ⟨(h.2.1 c1).1, ⟨fun c2 => hP 25 _ _ _ ⟨fun c3 => hP 46 _ _ _ (hP 52 _ _ _ (((h.2.1 c1).2.1 c2).1 c3)), fun c3 => ⟨rfl, ⟨(((h.2.1 c1).2.1 c2).2 c3).1, ⟨fun c4 => hP 51 _ _ _ (hP 52 _ _ _ ((((h.2.1 c1).2.1 c2).2 c3).2.1 c4)), fun c4 => hP 46 _ _ _ (hP 52 _ _ _ ((((h.2.1 c1).2.1 c2).2 c3).2.2 c4))⟩⟩⟩⟩, fun c2 => ((h.2.1 c1).2.2 c2)⟩⟩⟩, fun c1 => (h.2.2 c1)⟩⟩⟩
theorem rg_m_isAs_0 {d : Nat} {P : Nat → mj_L → List mj_V → mj_M → Prop} {R : Option mj_V → mj_M → Prop} (hP : mj_Cl mj_c141 (mj_Sp d) (0 < d) P R) {x1 : Int32} {x2 : Int32} {x3 : Int32} {M : mj_M} (h :
  ∃ M_1 : mj_M, mj_Sp d 122 [mj_r (30, 60, 0)] M none M_1 ∧
  ∀ x6_2 : Int32, x6_2 = (M_1 14 0 0 1) - (nI 1) → P 18 [some (mj_r (30, 60, 0)), some (mj_i x1), some (mj_i x2), some (mj_i x3), some (mj_i x1), some (mj_i (nI 1)), some (mj_i x6_2)] [] M_1) : P 0 [some (mj_r (30, 60, 0)), some (mj_i x1), some (mj_i x2), some (mj_i x3), none, none, none] [] M :=
  hP 0 _ _ _ ⟨rfl, ⟨rfl, Exists.elim h fun a1 b1 => ⟨a1, b1.1, hP 7 _ _ _ ⟨rfl, ⟨rfl, ⟨rfl, (b1.2 _ rfl)⟩⟩⟩⟩⟩⟩
theorem rg_m_isAs_18 {d : Nat} {P : Nat → mj_L → List mj_V → mj_M → Prop} {R : Option mj_V → mj_M → Prop} (hP : mj_Cl mj_c141 (mj_Sp d) (0 < d) P R) {x1 : Int32} {x2 : Int32} {x3 : Int32} {x4 : Int32} {x5 : Int32} {x6 : Int32} {M : mj_M} (h :
  (x6 < 0 →
  (x5 = 0 →
    P 95 [some (mj_r (30, 60, 0)), some (mj_i x1), some (mj_i x2), some (mj_i x3), some (mj_i x4), some (mj_i x5), some (mj_i (nI 0))] [] M) ∧
    (¬ x5 = 0 →
    ∃ (y_2 : Int32) (M_1 : mj_M), mj_Sp d 118 [mj_r (30, 60, 0), mj_i x2] M (some (mj_i y_2)) M_1 ∧
      P 95 [some (mj_r (30, 60, 0)), some (mj_i x1), some (mj_i x2), some (mj_i x3), some (mj_i x4), some (mj_i x5), some (mj_i (nI 0))] [] M_1)) ∧
  (¬ x6 < 0 →
  (x5 = 0 →
    ((nI 0) = 0 →
      ∃ M_3 : mj_M, mj_Sp d 131 [mj_r (30, 60, 0), mj_i x6, mj_i (nI 6)] M none M_3 ∧
        ¬ (nI 7) = 0 ∧ ∀ x4_4 : Int32, x4_4 = x4 / (nI 7) → ∀ x6_5 : Int32, x6_5 = x6 + (-(nI 1)) → P 18 [some (mj_r (30, 60, 0)), some (mj_i x1), some (mj_i x2), some (mj_i x3), some (mj_i x4_4), some (mj_i (nI 0)), some (mj_i x6_5)] [] M_3) ∧
      (¬ (nI 0) = 0 →
      ¬ (nI 7) = 0 ∧ ∃ M_6 : mj_M, mj_Sp d 131 [mj_r (30, 60, 0), mj_i x6, mj_i (x4 % (nI 7))] M none M_6 ∧
        ¬ (nI 7) = 0 ∧ ∀ x4_7 : Int32, x4_7 = x4 / (nI 7) → ∀ x6_8 : Int32, x6_8 = x6 + (-(nI 1)) → P 18 [some (mj_r (30, 60, 0)), some (mj_i x1), some (mj_i x2), some (mj_i x3), some (mj_i x4_7), some (mj_i (nI 0)), some (mj_i x6_8)] [] M_6)) ∧
    (¬ x5 = 0 →
    ¬ (nI 7) = 0 ∧ ∃ (y_10 : Int32) (M_9 : mj_M), mj_Sp d 132 [mj_r (30, 60, 0), mj_i (x4 % (nI 7))] M (some (mj_i y_10)) M_9 ∧
      (y_10 = 0 →
      ((nI 0) = 0 →
        ∃ M_11 : mj_M, mj_Sp d 131 [mj_r (30, 60, 0), mj_i x6, mj_i (nI 6)] M_9 none M_11 ∧
          ¬ (nI 7) = 0 ∧ ∀ x4_12 : Int32, x4_12 = x4 / (nI 7) → ∀ x6_13 : Int32, x6_13 = x6 + (-(nI 1)) → P 18 [some (mj_r (30, 60, 0)), some (mj_i x1), some (mj_i x2), some (mj_i x3), some (mj_i x4_12), some (mj_i (nI 0)), some (mj_i x6_13)] [] M_11) ∧
        (¬ (nI 0) = 0 →
        ¬ (nI 7) = 0 ∧ ∃ M_14 : mj_M, mj_Sp d 131 [mj_r (30, 60, 0), mj_i x6, mj_i (x4 % (nI 7))] M_9 none M_14 ∧
          ¬ (nI 7) = 0 ∧ ∀ x4_15 : Int32, x4_15 = x4 / (nI 7) → ∀ x6_16 : Int32, x6_16 = x6 + (-(nI 1)) → P 18 [some (mj_r (30, 60, 0)), some (mj_i x1), some (mj_i x2), some (mj_i x3), some (mj_i x4_15), some (mj_i (nI 0)), some (mj_i x6_16)] [] M_14)) ∧
      (¬ y_10 = 0 →
      ((nI 1) = 0 →
        ∃ M_17 : mj_M, mj_Sp d 131 [mj_r (30, 60, 0), mj_i x6, mj_i (nI 6)] M_9 none M_17 ∧
          ¬ (nI 7) = 0 ∧ ∀ x4_18 : Int32, x4_18 = x4 / (nI 7) → ∀ x6_19 : Int32, x6_19 = x6 + (-(nI 1)) → P 18 [some (mj_r (30, 60, 0)), some (mj_i x1), some (mj_i x2), some (mj_i x3), some (mj_i x4_18), some (mj_i (nI 1)), some (mj_i x6_19)] [] M_17) ∧
        (¬ (nI 1) = 0 →
        ¬ (nI 7) = 0 ∧ ∃ M_20 : mj_M, mj_Sp d 131 [mj_r (30, 60, 0), mj_i x6, mj_i (x4 % (nI 7))] M_9 none M_20 ∧
          ¬ (nI 7) = 0 ∧ ∀ x4_21 : Int32, x4_21 = x4 / (nI 7) → ∀ x6_22 : Int32, x6_22 = x6 + (-(nI 1)) → P 18 [some (mj_r (30, 60, 0)), some (mj_i x1), some (mj_i x2), some (mj_i x3), some (mj_i x4_21), some (mj_i (nI 1)), some (mj_i x6_22)] [] M_20))))) : P 18 [some (mj_r (30, 60, 0)), some (mj_i x1), some (mj_i x2), some (mj_i x3), some (mj_i x4), some (mj_i x5), some (mj_i x6)] [] M :=
  hP 18 _ _ _ ⟨fun c1 => hP 81 _ _ _ ⟨fun c2 => hP 92 _ _ _ ⟨rfl, ((h.1 c1).1 c2)⟩, fun c2 => ⟨rfl, Exists.elim ((h.1 c1).2 c2) fun e3 g3 => Exists.elim g3 fun a3 b3 => ⟨e3, a3, b3.1, hP 91 _ _ _ (hP 92 _ _ _ ⟨rfl, b3.2⟩)⟩⟩⟩, fun c1 => ⟨fun c4 => hP 44 _ _ _ (hP 45 _ _ _ ⟨rfl, ⟨fun c5 => hP 63 _ _ _ (hP 65 _ _ _ ⟨rfl, Exists.elim (((h.2 c1).1 c4).1 c5) fun a6 b6 => ⟨a6, b6.1, hP 68 _ _ _ ⟨b6.2.1, ⟨rfl, ⟨rfl, ((b6.2.2 _ rfl) _ rfl)⟩⟩⟩⟩⟩), fun c5 => ⟨(((h.2 c1).1 c4).2 c5).1, hP 65 _ _ _ ⟨rfl, Exists.elim ((((h.2 c1).1 c4).2 c5).2) fun a7 b7 => ⟨a7, b7.1, hP 68 _ _ _ ⟨b7.2.1, ⟨rfl, ⟨rfl, ((b7.2.2 _ rfl) _ rfl)⟩⟩⟩⟩⟩⟩⟩⟩), fun c4 => ⟨((h.2 c1).2 c4).1, ⟨rfl, Exists.elim (((h.2 c1).2 c4).2) fun e8 g8 => Exists.elim g8 fun a8 b8 => ⟨e8, a8, b8.1, hP 37 _ _ _ ⟨fun c9 => hP 44 _ _ _ (hP 45 _ _ _ ⟨rfl, ⟨fun c10 => hP 63 _ _ _ (hP 65 _ _ _ ⟨rfl, Exists.elim ((b8.2.1 c9).1 c10) fun a11 b11 => ⟨a11, b11.1, hP 68 _ _ _ ⟨b11.2.1, ⟨rfl, ⟨rfl, ((b11.2.2 _ rfl) _ rfl)⟩⟩⟩⟩⟩), fun c10 => ⟨((b8.2.1 c9).2 c10).1, hP 65 _ _ _ ⟨rfl, Exists.elim (((b8.2.1 c9).2 c10).2) fun a12 b12 => ⟨a12, b12.1, hP 68 _ _ _ ⟨b12.2.1, ⟨rfl, ⟨rfl, ((b12.2.2 _ rfl) _ rfl)⟩⟩⟩⟩⟩⟩⟩⟩), fun c9 => hP 45 _ _ _ ⟨rfl, ⟨fun c13 => hP 63 _ _ _ (hP 65 _ _ _ ⟨rfl, Exists.elim ((b8.2.2 c9).1 c13) fun a14 b14 => ⟨a14, b14.1, hP 68 _ _ _ ⟨b14.2.1, ⟨rfl, ⟨rfl, ((b14.2.2 _ rfl) _ rfl)⟩⟩⟩⟩⟩), fun c13 => ⟨((b8.2.2 c9).2 c13).1, hP 65 _ _ _ ⟨rfl, Exists.elim (((b8.2.2 c9).2 c13).2) fun a15 b15 => ⟨a15, b15.1, hP 68 _ _ _ ⟨b15.2.1, ⟨rfl, ⟨rfl, ((b15.2.2 _ rfl) _ rfl)⟩⟩⟩⟩⟩⟩⟩⟩⟩⟩⟩⟩⟩⟩
theorem rg_m_isAs_95 {d : Nat} {P : Nat → mj_L → List mj_V → mj_M → Prop} {R : Option mj_V → mj_M → Prop} (hP : mj_Cl mj_c141 (mj_Sp d) (0 < d) P R) {x1 : Int32} {x2 : Int32} {x3 : Int32} {x4 : Int32} {x5 : Int32} {x6 : Int32} {M : mj_M} (h :
  ((M 14 0 0 1) ≤ x6 →
  ∃ M_1 : mj_M, mj_Sp d 123 [mj_r (30, 60, 0)] M none M_1 ∧
    (x5 = 0 ∨ x5 = 1) ∧ R (some (mj_i x5)) M_1) ∧
  (¬ (M 14 0 0 1) ≤ x6 →
  (x5 = 0 →
    ∀ x6_2 : Int32, x6_2 = x6 + (nI 1) → P 95 [some (mj_r (30, 60, 0)), some (mj_i x1), some (mj_i x2), some (mj_i x3), some (mj_i x4), some (mj_i (nI 0)), some (mj_i x6_2)] [] M) ∧
    (¬ x5 = 0 →
    vp_in ((nI 46) + x6) 76 ∧ vp_in (x3 + x6) 100 ∧ (¬ (mj_rd M (14, 61, 0) ((nI 46) + x6).toNatClampNeg) = (M 35 71 0 (x3 + x6).toNatClampNeg) →
      ∀ x6_3 : Int32, x6_3 = x6 + (nI 1) → P 95 [some (mj_r (30, 60, 0)), some (mj_i x1), some (mj_i x2), some (mj_i x3), some (mj_i x4), some (mj_i (nI 0)), some (mj_i x6_3)] [] M) ∧
      (¬ ¬ (mj_rd M (14, 61, 0) ((nI 46) + x6).toNatClampNeg) = (M 35 71 0 (x3 + x6).toNatClampNeg) →
      ∀ x6_4 : Int32, x6_4 = x6 + (nI 1) → P 95 [some (mj_r (30, 60, 0)), some (mj_i x1), some (mj_i x2), some (mj_i x3), some (mj_i x4), some (mj_i (nI 1)), some (mj_i x6_4)] [] M)))) : P 95 [some (mj_r (30, 60, 0)), some (mj_i x1), some (mj_i x2), some (mj_i x3), some (mj_i x4), some (mj_i x5), some (mj_i x6)] [] M :=
  hP 95 _ _ _ ⟨rfl, ⟨fun c1 => hP 144 _ _ _ ⟨rfl, Exists.elim (h.1 c1) fun a2 b2 => ⟨a2, b2.1, hP 148 _ _ _ ⟨b2.2.1, b2.2.2⟩⟩⟩, fun c1 => ⟨fun c3 => hP 135 _ _ _ (hP 136 _ _ _ ⟨rfl, ⟨rfl, (((h.2 c1).1 c3) _ rfl)⟩⟩), fun c3 => ⟨rfl, ⟨((h.2 c1).2 c3).1, ⟨rfl, ⟨((h.2 c1).2 c3).2.1, ⟨fun c4 => hP 135 _ _ _ (hP 136 _ _ _ ⟨rfl, ⟨rfl, ((((h.2 c1).2 c3).2.2.1 c4) _ rfl)⟩⟩), fun c4 => hP 136 _ _ _ ⟨rfl, ⟨rfl, ((((h.2 c1).2 c3).2.2.2 c4) _ rfl)⟩⟩⟩⟩⟩⟩⟩⟩⟩⟩
theorem rg_m_held_0 {d : Nat} {P : Nat → mj_L → List mj_V → mj_M → Prop} {R : Option mj_V → mj_M → Prop} (hP : mj_Cl mj_c142 (mj_Sp d) (0 < d) P R) {x1 : Int32} {x2 : Int32} {x3 : Int32} {x4 : Int32} {x5 : Int32} {M : mj_M} (h :
  ∃ (y_2 : Int32) (M_1 : mj_M), mj_Sp d 86 [mj_l x1.toInt64, mj_l (lN 1), mj_l (lN 12)] M (some (mj_i y_2)) M_1 ∧
  (y_2 = 0 →
  R (some (mj_i (-(nI 1)))) M_1) ∧
  (¬ y_2 = 0 →
  ∃ (y_4 : Int32) (M_3 : mj_M), mj_Sp d 138 [mj_i x2] M_1 (some (mj_i y_4)) M_3 ∧
    (y_4 = 0 →
    R (some (mj_i (-(nI 1)))) M_3) ∧
    (¬ y_4 = 0 →
    ∃ (y_6 : Int32) (M_5 : mj_M), mj_Sp d 139 [mj_i x3] M_3 (some (mj_i y_6)) M_5 ∧
      (y_6 = 0 →
      R (some (mj_i (-(nI 1)))) M_5) ∧
      (¬ y_6 = 0 →
      ∃ (y_8 : Int32) (M_7 : mj_M), mj_Sp d 86 [mj_l x5.toInt64, mj_l (-(lN 1)), mj_l (lN 3)] M_5 (some (mj_i y_8)) M_7 ∧
        (¬ y_8 = 0 →
        ∃ (y_10 : Int32) (M_9 : mj_M), mj_Sp d 140 [mj_r (30, 60, 0), mj_i x2, mj_i x3, mj_i x4, mj_i (M_7 14 0 0 1)] M_7 (some (mj_i y_10)) M_9 ∧
          (0 ≤ y_10 →
          (¬ (M_9 14 0 0 1) = 0 →
            P 81 [some (mj_r (30, 60, 0)), some (mj_i x1), some (mj_i x2), some (mj_i x3), some (mj_i x4), some (mj_i x5), some (mj_i y_10), some (mj_i (nI 1)), some (mj_i (nI 0)), none, none] [] M_9) ∧
            (¬ ¬ (M_9 14 0 0 1) = 0 →
            R (some (mj_i (-(nI 2)))) M_9)) ∧
          (¬ 0 ≤ y_10 →
          R (some (mj_i y_10)) M_9)) ∧
        (¬ ¬ y_8 = 0 →
        R (some (mj_i (-(nI 1)))) M_7))))) : P 0 [some (mj_r (30, 60, 0)), some (mj_i x1), some (mj_i x2), some (mj_i x3), some (mj_i x4), some (mj_i x5), none, none, none, none, none] [] M :=
  hP 0 _ _ _ ⟨rfl, Exists.elim h fun e1 g1 => Exists.elim g1 fun a1 b1 => ⟨e1, a1, b1.1, hP 9 _ _ _ ⟨fun c2 => hP 41 _ _ _ (b1.2.1 c2), fun c2 => ⟨rfl, Exists.elim (b1.2.2 c2) fun e3 g3 => Exists.elim g3 fun a3 b3 => ⟨e3, a3, b3.1, hP 16 _ _ _ ⟨fun c4 => hP 41 _ _ _ (b3.2.1 c4), fun c4 => ⟨rfl, Exists.elim (b3.2.2 c4) fun e5 g5 => Exists.elim g5 fun a5 b5 => ⟨e5, a5, b5.1, hP 23 _ _ _ ⟨fun c6 => hP 41 _ _ _ (b5.2.1 c6), fun c6 => ⟨rfl, Exists.elim (b5.2.2 c6) fun e7 g7 => Exists.elim g7 fun a7 b7 => ⟨e7, a7, b7.1, hP 38 _ _ _ ⟨fun c8 => hP 43 _ _ _ ⟨rfl, ⟨rfl, Exists.elim (b7.2.1 c8) fun e9 g9 => Exists.elim g9 fun a9 b9 => ⟨e9, a9, b9.1, hP 55 _ _ _ ⟨rfl, ⟨fun c10 => hP 65 _ _ _ ⟨rfl, ⟨fun c11 => hP 75 _ _ _ ⟨rfl, ⟨rfl, ((b9.2.1 c10).1 c11)⟩⟩, fun c11 => ((b9.2.1 c10).2 c11)⟩⟩, fun c10 => (b9.2.2 c10)⟩⟩⟩⟩⟩, fun c8 => hP 41 _ _ _ (b7.2.2 c8)⟩⟩⟩⟩⟩⟩⟩⟩⟩⟩⟩⟩
theorem rg_m_held_81 {d : Nat} {P : Nat → mj_L → List mj_V → mj_M → Prop} {R : Option mj_V → mj_M → Prop} (hP : mj_Cl mj_c142 (mj_Sp d) (0 < d) P R) {x1 : Int32} {x2 : Int32} {x3 : Int32} {x4 : Int32} {x5 : Int32} {x6 : Int32} {x7 : Int32} {x8 : Int32} {M : mj_M} (h :
  ((M 14 0 0 1) ≤ x8 →
  P 112 [some (mj_r (30, 60, 0)), some (mj_i x1), some (mj_i x2), some (mj_i x3), some (mj_i x4), some (mj_i x5), some (mj_i x6), some (mj_i x7), some (mj_i (nI 0)), some (mj_i (-(nI 1))), some (mj_i (nI 0))] [] M) ∧
  (¬ (M 14 0 0 1) ≤ x8 →
  ∀ x7_1 : Int32, x7_1 = x7 * (nI 7) → ∀ x8_2 : Int32, x8_2 = x8 + (nI 1) → P 81 [some (mj_r (30, 60, 0)), some (mj_i x1), some (mj_i x2), some (mj_i x3), some (mj_i x4), some (mj_i x5), some (mj_i x6), some (mj_i x7_1), some (mj_i x8_2), none, none] [] M)) : P 81 [some (mj_r (30, 60, 0)), some (mj_i x1), some (mj_i x2), some (mj_i x3), some (mj_i x4), some (mj_i x5), some (mj_i x6), some (mj_i x7), some (mj_i x8), none, none] [] M :=
  hP 81 _ _ _ ⟨rfl, ⟨fun c1 => hP 103 _ _ _ ⟨rfl, ⟨rfl, ⟨rfl, (h.1 c1)⟩⟩⟩, fun c1 => ⟨rfl, ⟨rfl, (((h.2 c1) _ rfl) _ rfl)⟩⟩⟩⟩
theorem rg_m_held_112 {d : Nat} {P : Nat → mj_L → List mj_V → mj_M → Prop} {R : Option mj_V → mj_M → Prop} (hP : mj_Cl mj_c142 (mj_Sp d) (0 < d) P R) {x1 : Int32} {x2 : Int32} {x3 : Int32} {x4 : Int32} {x5 : Int32} {x6 : Int32} {x7 : Int32} {x8 : Int32} {x9 : Int32} {x10 : Int32} {M : mj_M} (h :
  (x7 ≤ x10 →
  (0 ≤ x5 →
    (x8 = 0 →
      R (some (mj_i (-(nI 4)))) M) ∧
      (¬ x8 = 0 →
      (x5 < (M 14 0 0 1) →
        ∀ x10_1 : Int32, x10_1 = (M 14 0 0 1) - (nI 1) → P 192 [some (mj_r (30, 60, 0)), some (mj_i x1), some (mj_i x2), some (mj_i x3), some (mj_i x4), some (mj_i x5), some (mj_i x6), some (mj_i x7), some (mj_i x8), some (mj_i x9), some (mj_i x10_1)] [] M) ∧
        (¬ x5 < (M 14 0 0 1) →
        R (some (mj_i (-(nI 4)))) M))) ∧
    (¬ 0 ≤ x5 →
    R (some (mj_i x8)) M)) ∧
  (¬ x7 ≤ x10 →
  ∃ (y_3 : Int32) (M_2 : mj_M), mj_Sp d 141 [mj_r (30, 60, 0), mj_i x10, mj_i x1, mj_i (((nI 25) * x2) + x4)] M (some (mj_i y_3)) M_2 ∧
    (y_3 = 0 →
    ∀ x10_4 : Int32, x10_4 = x10 + (nI 1) → P 112 [some (mj_r (30, 60, 0)), some (mj_i x1), some (mj_i x2), some (mj_i x3), some (mj_i x4), some (mj_i x5), some (mj_i x6), some (mj_i x7), some (mj_i x8), some (mj_i x9), some (mj_i x10_4)] [] M_2) ∧
    (¬ y_3 = 0 →
    ∀ x8_5 : Int32, x8_5 = x8 + (nI 1) → (0 ≤ x9 →
      ∀ x10_6 : Int32, x10_6 = x10 + (nI 1) → P 112 [some (mj_r (30, 60, 0)), some (mj_i x1), some (mj_i x2), some (mj_i x3), some (mj_i x4), some (mj_i x5), some (mj_i x6), some (mj_i x7), some (mj_i x8_5), some (mj_i x9), some (mj_i x10_6)] [] M_2) ∧
      (¬ 0 ≤ x9 →
      ∀ x10_7 : Int32, x10_7 = x10 + (nI 1) → P 112 [some (mj_r (30, 60, 0)), some (mj_i x1), some (mj_i x2), some (mj_i x3), some (mj_i x4), some (mj_i x5), some (mj_i x6), some (mj_i x7), some (mj_i x8_5), some (mj_i x10), some (mj_i x10_7)] [] M_2)))) : P 112 [some (mj_r (30, 60, 0)), some (mj_i x1), some (mj_i x2), some (mj_i x3), some (mj_i x4), some (mj_i x5), some (mj_i x6), some (mj_i x7), some (mj_i x8), some (mj_i x9), some (mj_i x10)] [] M :=
  hP 112 _ _ _ ⟨fun c1 => hP 159 _ _ _ ⟨fun c2 => hP 167 _ _ _ ⟨fun c3 => hP 181 _ _ _ (((h.1 c1).1 c2).1 c3), fun c3 => ⟨rfl, ⟨fun c4 => hP 184 _ _ _ ⟨rfl, ⟨rfl, (((((h.1 c1).1 c2).2 c3).1 c4) _ rfl)⟩⟩, fun c4 => hP 181 _ _ _ ((((h.1 c1).1 c2).2 c3).2 c4)⟩⟩⟩, fun c2 => ((h.1 c1).2 c2)⟩, fun c1 => ⟨rfl, Exists.elim (h.2 c1) fun e5 g5 => Exists.elim g5 fun a5 b5 => ⟨e5, a5, b5.1, hP 133 _ _ _ ⟨fun c6 => hP 153 _ _ _ ⟨rfl, ((b5.2.1 c6) _ rfl)⟩, fun c6 => ⟨rfl, ⟨fun c7 => hP 149 _ _ _ (hP 151 _ _ _ ⟨rfl, hP 153 _ _ _ ⟨rfl, ((((b5.2.2 c6) _ rfl).1 c7) _ rfl)⟩⟩), fun c7 => hP 151 _ _ _ ⟨rfl, hP 153 _ _ _ ⟨rfl, ((((b5.2.2 c6) _ rfl).2 c7) _ rfl)⟩⟩⟩⟩⟩⟩⟩⟩
theorem rg_m_held_192 {d : Nat} {P : Nat → mj_L → List mj_V → mj_M → Prop} {R : Option mj_V → mj_M → Prop} (hP : mj_Cl mj_c142 (mj_Sp d) (0 < d) P R) {x1 : Int32} {x2 : Int32} {x3 : Int32} {x4 : Int32} {x5 : Int32} {x6 : Int32} {x7 : Int32} {x8 : Int32} {x9 : Int32} {x10 : Int32} {M : mj_M} (h :
  (x10 ≤ x5 →
  ¬ (nI 7) = 0 ∧ R (some (mj_i (x9 % (nI 7)))) M) ∧
  (¬ x10 ≤ x5 →
  ¬ (nI 7) = 0 ∧ ∀ x9_1 : Int32, x9_1 = x9 / (nI 7) → ∀ x10_2 : Int32, x10_2 = x10 + (-(nI 1)) → P 192 [some (mj_r (30, 60, 0)), some (mj_i x1), some (mj_i x2), some (mj_i x3), some (mj_i x4), some (mj_i x5), some (mj_i x6), some (mj_i x7), some (mj_i x8), some (mj_i x9_1), some (mj_i x10_2)] [] M)) : P 192 [some (mj_r (30, 60, 0)), some (mj_i x1), some (mj_i x2), some (mj_i x3), some (mj_i x4), some (mj_i x5), some (mj_i x6), some (mj_i x7), some (mj_i x8), some (mj_i x9), some (mj_i x10)] [] M :=
  hP 192 _ _ _ ⟨fun c1 => hP 212 _ _ _ ⟨(h.1 c1).1, (h.1 c1).2⟩, fun c1 => ⟨(h.2 c1).1, ⟨rfl, ⟨rfl, (((h.2 c1).2 _ rfl) _ rfl)⟩⟩⟩⟩
theorem rg_m_puts_0 {d : Nat} {P : Nat → mj_L → List mj_V → mj_M → Prop} {R : Option mj_V → mj_M → Prop} (hP : mj_Cl mj_c143 (mj_Sp d) (0 < d) P R) {x1 : Int32} {x2 : Int32} {w3 : Int64} {M : mj_M} (h :
  vp_in x1 4 ∧ ∀ x5_1 : Int32, x5_1 = M 35 69 0 x1.toNatClampNeg → (¬ x5_1 = 0 →
  (¬ x5_1 = (nI 1) →
    vp_in (((nI 25) * x1) + x2) 100 ∧ ∀ M_2 : mj_M, M_2 = mj_wl M (35, 71, 0, (((nI 25) * x1) + x2).toNatClampNeg) w3.toInt32 → R none M_2) ∧
    (¬ ¬ x5_1 = (nI 1) →
    vp_in (((nI 25) * x1) + x2) 100 ∧ ∀ M_3 : mj_M, M_3 = mj_wl M (35, 71, 0, (((nI 25) * x1) + x2).toNatClampNeg) w3.toInt32.toInt16.toInt32 → R none M_3)) ∧
  (¬ ¬ x5_1 = 0 →
  vp_in (((nI 25) * x1) + x2) 100 ∧ ∀ M_4 : mj_M, M_4 = mj_wl M (35, 71, 0, (((nI 25) * x1) + x2).toNatClampNeg) w3.toInt32.toInt8.toInt32 → R none M_4)) : P 0 [some (mj_r (30, 60, 0)), some (mj_i x1), some (mj_i x2), some (mj_l w3), none, none] [] M :=
  hP 0 _ _ _ ⟨rfl, ⟨h.1, ⟨rfl, ⟨rfl, ⟨fun c1 => hP 29 _ _ _ ⟨fun c2 => hP 41 _ _ _ (hP 43 _ _ _ ⟨rfl, ⟨(((h.2 _ rfl).1 c1).1 c2).1, ((((h.2 _ rfl).1 c1).1 c2).2 _ rfl)⟩⟩), fun c2 => hP 43 _ _ _ ⟨rfl, ⟨(((h.2 _ rfl).1 c1).2 c2).1, ((((h.2 _ rfl).1 c1).2 c2).2 _ rfl)⟩⟩⟩, fun c1 => hP 43 _ _ _ ⟨rfl, ⟨((h.2 _ rfl).2 c1).1, (((h.2 _ rfl).2 c1).2 _ rfl)⟩⟩⟩⟩⟩⟩⟩
theorem rg_m_film_0 {d : Nat} {P : Nat → mj_L → List mj_V → mj_M → Prop} {R : Option mj_V → mj_M → Prop} (hP : mj_Cl mj_c144 (mj_Sp d) (0 < d) P R) {x1 : Int32} {x2 : Int32} {x3 : Int32} {x4 : Int32} {M : mj_M} (h :
  ∃ (y_2 : Int32) (M_1 : mj_M), mj_Sp d 86 [mj_l x1.toInt64, mj_l (lN 0), mj_l (lN 4)] M (some (mj_i y_2)) M_1 ∧
  (y_2 = 0 →
  R (some (mj_i (-(nI 1)))) M_1) ∧
  (¬ y_2 = 0 →
  ∃ (y_4 : Int32) (M_3 : mj_M), mj_Sp d 138 [mj_i x2] M_1 (some (mj_i y_4)) M_3 ∧
    (y_4 = 0 →
    R (some (mj_i (-(nI 1)))) M_3) ∧
    (¬ y_4 = 0 →
    ∃ (y_6 : Int32) (M_5 : mj_M), mj_Sp d 139 [mj_i x3] M_3 (some (mj_i y_6)) M_5 ∧
      (¬ y_6 = 0 →
      ∃ (y_8 : Int32) (M_7 : mj_M), mj_Sp d 140 [mj_r (30, 60, 0), mj_i x2, mj_i x3, mj_i x4, mj_i (nI 5)] M_5 (some (mj_i y_8)) M_7 ∧
        (0 ≤ y_8 →
        P 50 [some (mj_r (30, 60, 0)), some (mj_i x1), some (mj_i x2), some (mj_i x3), some (mj_i x4), some (mj_i y_8), some (mj_i (nI 0))] [] M_7) ∧
        (¬ 0 ≤ y_8 →
        R (some (mj_i y_8)) M_7)) ∧
      (¬ ¬ y_6 = 0 →
      R (some (mj_i (-(nI 1)))) M_5)))) : P 0 [some (mj_r (30, 60, 0)), some (mj_i x1), some (mj_i x2), some (mj_i x3), some (mj_i x4), none, none] [] M :=
  hP 0 _ _ _ ⟨rfl, Exists.elim h fun e1 g1 => Exists.elim g1 fun a1 b1 => ⟨e1, a1, b1.1, hP 9 _ _ _ ⟨fun c2 => hP 26 _ _ _ (b1.2.1 c2), fun c2 => ⟨rfl, Exists.elim (b1.2.2 c2) fun e3 g3 => Exists.elim g3 fun a3 b3 => ⟨e3, a3, b3.1, hP 16 _ _ _ ⟨fun c4 => hP 26 _ _ _ (b3.2.1 c4), fun c4 => ⟨rfl, Exists.elim (b3.2.2 c4) fun e5 g5 => Exists.elim g5 fun a5 b5 => ⟨e5, a5, b5.1, hP 23 _ _ _ ⟨fun c6 => hP 28 _ _ _ ⟨rfl, Exists.elim (b5.2.1 c6) fun e7 g7 => Exists.elim g7 fun a7 b7 => ⟨e7, a7, b7.1, hP 37 _ _ _ ⟨rfl, ⟨fun c8 => hP 47 _ _ _ ⟨rfl, (b7.2.1 c8)⟩, fun c8 => (b7.2.2 c8)⟩⟩⟩⟩, fun c6 => hP 26 _ _ _ (b5.2.2 c6)⟩⟩⟩⟩⟩⟩⟩⟩⟩
theorem rg_m_film_50 {d : Nat} {P : Nat → mj_L → List mj_V → mj_M → Prop} {R : Option mj_V → mj_M → Prop} (hP : mj_Cl mj_c144 (mj_Sp d) (0 < d) P R) {x1 : Int32} {x2 : Int32} {x3 : Int32} {x4 : Int32} {x5 : Int32} {x6 : Int32} {M : mj_M} (h :
  ((nI 5) ≤ x6 →
  R (some (mj_i (nI 5))) M) ∧
  (¬ (nI 5) ≤ x6 →
  vp_in (((nI 50) + ((nI 5) * x1)) + x6) 76 ∧ ∃ M_1 : mj_M, mj_Sp d 143 [mj_r (30, 60, 0), mj_i x2, mj_i (x4 + x6), mj_l ((mj_rd M (14, 61, 0) (((nI 50) + ((nI 5) * x1)) + x6).toNatClampNeg).toInt64)] M none M_1 ∧
    ∀ x6_2 : Int32, x6_2 = x6 + (nI 1) → P 50 [some (mj_r (30, 60, 0)), some (mj_i x1), some (mj_i x2), some (mj_i x3), some (mj_i x4), some (mj_i x5), some (mj_i x6_2)] [] M_1)) : P 50 [some (mj_r (30, 60, 0)), some (mj_i x1), some (mj_i x2), some (mj_i x3), some (mj_i x4), some (mj_i x5), some (mj_i x6)] [] M :=
  hP 50 _ _ _ ⟨fun c1 => hP 87 _ _ _ (h.1 c1), fun c1 => ⟨rfl, ⟨(h.2 c1).1, ⟨rfl, Exists.elim ((h.2 c1).2) fun a2 b2 => ⟨a2, b2.1, hP 81 _ _ _ ⟨rfl, (b2.2 _ rfl)⟩⟩⟩⟩⟩⟩
theorem rg_m_sheet_0 {d : Nat} {P : Nat → mj_L → List mj_V → mj_M → Prop} {R : Option mj_V → mj_M → Prop} (hP : mj_Cl mj_c145 (mj_Sp d) (0 < d) P R) {x1 : Int32} {x2 : Int32} {x3 : Int32} {M : mj_M} (h :
  ∃ (y_2 : Int32) (M_1 : mj_M), mj_Sp d 138 [mj_i x1] M (some (mj_i y_2)) M_1 ∧
  (y_2 = 0 →
  R (some (mj_i (-(nI 1)))) M_1) ∧
  (¬ y_2 = 0 →
  ∃ (y_4 : Int32) (M_3 : mj_M), mj_Sp d 139 [mj_i x2] M_1 (some (mj_i y_4)) M_3 ∧
    (y_4 = 0 →
    R (some (mj_i (-(nI 1)))) M_3) ∧
    (¬ y_4 = 0 →
    (x3 ≤ (nI 25) →
      (0 ≤ x3 →
        vp_in x1 4 ∧ ∀ M_5 : mj_M, M_5 = mj_wl M_3 (35, 69, 0, x1.toNatClampNeg) x2 → vp_in x1 4 ∧ ∀ M_6 : mj_M, M_6 = mj_wl M_5 (35, 70, 0, x1.toNatClampNeg) x3 → P 46 [some (mj_r (30, 60, 0)), some (mj_i x1), some (mj_i x2), some (mj_i x3), some (mj_i (nI 0))] [] M_6) ∧
        (¬ 0 ≤ x3 →
        R (some (mj_i (-(nI 14)))) M_3)) ∧
      (¬ x3 ≤ (nI 25) →
      R (some (mj_i (-(nI 1)))) M_3)))) : P 0 [some (mj_r (30, 60, 0)), some (mj_i x1), some (mj_i x2), some (mj_i x3), none] [] M :=
  hP 0 _ _ _ ⟨rfl, Exists.elim h fun e1 g1 => Exists.elim g1 fun a1 b1 => ⟨e1, a1, b1.1, hP 4 _ _ _ ⟨fun c2 => hP 20 _ _ _ (b1.2.1 c2), fun c2 => ⟨rfl, Exists.elim (b1.2.2 c2) fun e3 g3 => Exists.elim g3 fun a3 b3 => ⟨e3, a3, b3.1, hP 11 _ _ _ ⟨fun c4 => hP 20 _ _ _ (b3.2.1 c4), fun c4 => ⟨fun c5 => hP 22 _ _ _ ⟨fun c6 => hP 29 _ _ _ ⟨rfl, ⟨rfl, ⟨(((b3.2.2 c4).1 c5).1 c6).1, ⟨rfl, ⟨rfl, ⟨((((b3.2.2 c4).1 c5).1 c6).2 _ rfl).1, ⟨rfl, (((((b3.2.2 c4).1 c5).1 c6).2 _ rfl).2 _ rfl)⟩⟩⟩⟩⟩⟩⟩, fun c6 => (((b3.2.2 c4).1 c5).2 c6)⟩, fun c5 => hP 20 _ _ _ ((b3.2.2 c4).2 c5)⟩⟩⟩⟩⟩⟩⟩
theorem rg_m_sheet_46 {d : Nat} {P : Nat → mj_L → List mj_V → mj_M → Prop} {R : Option mj_V → mj_M → Prop} (hP : mj_Cl mj_c145 (mj_Sp d) (0 < d) P R) {x1 : Int32} {x2 : Int32} {x3 : Int32} {x4 : Int32} {M : mj_M} (h :
  ((nI 25) ≤ x4 →
  R (some (mj_i x3)) M) ∧
  (¬ (nI 25) ≤ x4 →
  vp_in (((nI 25) * x1) + x4) 100 ∧ ∀ M_1 : mj_M, M_1 = mj_wl M (35, 71, 0, (((nI 25) * x1) + x4).toNatClampNeg) (nI 0) → ∀ x4_2 : Int32, x4_2 = x4 + (nI 1) → P 46 [some (mj_r (30, 60, 0)), some (mj_i x1), some (mj_i x2), some (mj_i x3), some (mj_i x4_2)] [] M_1)) : P 46 [some (mj_r (30, 60, 0)), some (mj_i x1), some (mj_i x2), some (mj_i x3), some (mj_i x4)] [] M :=
  hP 46 _ _ _ ⟨fun c1 => hP 72 _ _ _ (h.1 c1), fun c1 => ⟨rfl, ⟨rfl, ⟨(h.2 c1).1, ⟨rfl, (((h.2 c1).2 _ rfl) _ rfl)⟩⟩⟩⟩⟩
theorem rg_m_drop_0 {d : Nat} {P : Nat → mj_L → List mj_V → mj_M → Prop} {R : Option mj_V → mj_M → Prop} (hP : mj_Cl mj_c146 (mj_Sp d) (0 < d) P R) {x1 : Int32} {M : mj_M} (h :
  ∃ (y_2 : Int32) (M_1 : mj_M), mj_Sp d 138 [mj_i x1] M (some (mj_i y_2)) M_1 ∧
  (¬ y_2 = 0 →
  vp_in x1 4 ∧ (0 ≤ (M_1 35 69 0 x1.toNatClampNeg) →
    vp_in x1 4 ∧ ∀ M_3 : mj_M, M_3 = mj_wl M_1 (35, 69, 0, x1.toNatClampNeg) (-(nI 1)) → vp_in x1 4 ∧ R (some (mj_i (M_3 35 70 0 x1.toNatClampNeg))) M_3) ∧
    (¬ 0 ≤ (M_1 35 69 0 x1.toNatClampNeg) →
    R (some (mj_i (-(nI 11)))) M_1)) ∧
  (¬ ¬ y_2 = 0 →
  R (some (mj_i (-(nI 1)))) M_1)) : P 0 [some (mj_r (30, 60, 0)), some (mj_i x1)] [] M :=
  hP 0 _ _ _ ⟨rfl, Exists.elim h fun e1 g1 => Exists.elim g1 fun a1 b1 => ⟨e1, a1, b1.1, hP 4 _ _ _ ⟨fun c2 => hP 9 _ _ _ ⟨rfl, ⟨(b1.2.1 c2).1, ⟨fun c3 => hP 21 _ _ _ ⟨rfl, ⟨rfl, ⟨((b1.2.1 c2).2.1 c3).1, ⟨rfl, ⟨(((b1.2.1 c2).2.1 c3).2 _ rfl).1, (((b1.2.1 c2).2.1 c3).2 _ rfl).2⟩⟩⟩⟩⟩, fun c3 => ((b1.2.1 c2).2.2 c3)⟩⟩⟩, fun c2 => (b1.2.2 c2)⟩⟩⟩
theorem rg_m_item_0 {d : Nat} {P : Nat → mj_L → List mj_V → mj_M → Prop} {R : Option mj_V → mj_M → Prop} (hP : mj_Cl mj_c147 (mj_Sp d) (0 < d) P R) {x1 : Int32} {x2 : Int32} {x3 : Int32} {w4 : Int64} {M : mj_M} (h :
  ∃ (y_2 : Int32) (M_1 : mj_M), mj_Sp d 138 [mj_i x1] M (some (mj_i y_2)) M_1 ∧
  (y_2 = 0 →
  R (some (mj_i (-(nI 1)))) M_1) ∧
  (¬ y_2 = 0 →
  ∃ (y_4 : Int32) (M_3 : mj_M), mj_Sp d 139 [mj_i x2] M_1 (some (mj_i y_4)) M_3 ∧
    (¬ y_4 = 0 →
    ∃ (y_6 : Int32) (M_5 : mj_M), mj_Sp d 140 [mj_r (30, 60, 0), mj_i x1, mj_i x2, mj_i x3, mj_i (nI 1)] M_3 (some (mj_i y_6)) M_5 ∧
      (0 ≤ y_6 →
      ∃ M_7 : mj_M, mj_Sp d 143 [mj_r (30, 60, 0), mj_i x1, mj_i x3, mj_l w4] M_5 none M_7 ∧
        R (some (mj_i (nI 1))) M_7) ∧
      (¬ 0 ≤ y_6 →
      R (some (mj_i y_6)) M_5)) ∧
    (¬ ¬ y_4 = 0 →
    R (some (mj_i (-(nI 1)))) M_3))) : P 0 [some (mj_r (30, 60, 0)), some (mj_i x1), some (mj_i x2), some (mj_i x3), some (mj_l w4), none, none] [] M :=
  hP 0 _ _ _ ⟨rfl, Exists.elim h fun e1 g1 => Exists.elim g1 fun a1 b1 => ⟨e1, a1, b1.1, hP 4 _ _ _ ⟨fun c2 => hP 14 _ _ _ (b1.2.1 c2), fun c2 => ⟨rfl, Exists.elim (b1.2.2 c2) fun e3 g3 => Exists.elim g3 fun a3 b3 => ⟨e3, a3, b3.1, hP 11 _ _ _ ⟨fun c4 => hP 16 _ _ _ ⟨rfl, Exists.elim (b3.2.1 c4) fun e5 g5 => Exists.elim g5 fun a5 b5 => ⟨e5, a5, b5.1, hP 24 _ _ _ ⟨rfl, ⟨fun c6 => hP 34 _ _ _ ⟨rfl, Exists.elim (b5.2.1 c6) fun a7 b7 => ⟨a7, b7.1, hP 42 _ _ _ b7.2⟩⟩, fun c6 => (b5.2.2 c6)⟩⟩⟩⟩, fun c4 => hP 14 _ _ _ (b3.2.2 c4)⟩⟩⟩⟩⟩⟩
theorem rg_m_copy_0 {d : Nat} {P : Nat → mj_L → List mj_V → mj_M → Prop} {R : Option mj_V → mj_M → Prop} (hP : mj_Cl mj_c148 (mj_Sp d) (0 < d) P R) {x1 : Int32} {x2 : Int32} {x3 : Int32} {x4 : Int32} {x5 : Int32} {M : mj_M} (h :
  ∃ (y_2 : Int32) (M_1 : mj_M), mj_Sp d 138 [mj_i x1] M (some (mj_i y_2)) M_1 ∧
  (y_2 = 0 →
  R (some (mj_i (-(nI 1)))) M_1) ∧
  (¬ y_2 = 0 →
  ∃ (y_4 : Int32) (M_3 : mj_M), mj_Sp d 138 [mj_i x3] M_1 (some (mj_i y_4)) M_3 ∧
    (¬ y_4 = 0 →
    vp_in x1 4 ∧ ((M_3 35 69 0 x1.toNatClampNeg) < 0 →
      R (some (mj_i (-(nI 11)))) M_3) ∧
      (¬ (M_3 35 69 0 x1.toNatClampNeg) < 0 →
      vp_in x3 4 ∧ (0 ≤ (M_3 35 69 0 x3.toNatClampNeg) →
        vp_in x1 4 ∧ vp_in x3 4 ∧ ((M_3 35 69 0 x1.toNatClampNeg) = (M_3 35 69 0 x3.toNatClampNeg) →
          (x5 < 0 →
            R (some (mj_i (-(nI 13)))) M_3) ∧
            (¬ x5 < 0 →
            vp_in x1 4 ∧ ∃ (y_6 : Int32) (M_5 : mj_M), mj_Sp d 140 [mj_r (30, 60, 0), mj_i x1, mj_i (M_3 35 69 0 x1.toNatClampNeg), mj_i x2, mj_i x5] M_3 (some (mj_i y_6)) M_5 ∧
              (y_6 < 0 →
              R (some (mj_i (-(nI 13)))) M_5) ∧
              (¬ y_6 < 0 →
              vp_in x3 4 ∧ ∃ (y_8 : Int32) (M_7 : mj_M), mj_Sp d 140 [mj_r (30, 60, 0), mj_i x3, mj_i (M_5 35 69 0 x3.toNatClampNeg), mj_i x4, mj_i x5] M_5 (some (mj_i y_8)) M_7 ∧
                (0 ≤ y_8 →
                P 101 [some (mj_r (30, 60, 0)), some (mj_i x1), some (mj_i x2), some (mj_i x3), some (mj_i x4), some (mj_i x5), some (mj_i (nI 0))] [] M_7) ∧
                (¬ 0 ≤ y_8 →
                R (some (mj_i (-(nI 13)))) M_7)))) ∧
          (¬ (M_3 35 69 0 x1.toNatClampNeg) = (M_3 35 69 0 x3.toNatClampNeg) →
          R (some (mj_i (-(nI 12)))) M_3)) ∧
        (¬ 0 ≤ (M_3 35 69 0 x3.toNatClampNeg) →
        R (some (mj_i (-(nI 11)))) M_3))) ∧
    (¬ ¬ y_4 = 0 →
    R (some (mj_i (-(nI 1)))) M_3))) : P 0 [some (mj_r (30, 60, 0)), some (mj_i x1), some (mj_i x2), some (mj_i x3), some (mj_i x4), some (mj_i x5), none] [] M :=
  hP 0 _ _ _ ⟨rfl, Exists.elim h fun e1 g1 => Exists.elim g1 fun a1 b1 => ⟨e1, a1, b1.1, hP 4 _ _ _ ⟨fun c2 => hP 14 _ _ _ (b1.2.1 c2), fun c2 => ⟨rfl, Exists.elim (b1.2.2 c2) fun e3 g3 => Exists.elim g3 fun a3 b3 => ⟨e3, a3, b3.1, hP 11 _ _ _ ⟨fun c4 => hP 16 _ _ _ ⟨rfl, ⟨(b3.2.1 c4).1, ⟨fun c5 => hP 34 _ _ _ ((b3.2.1 c4).2.1 c5), fun c5 => ⟨rfl, ⟨((b3.2.1 c4).2.2 c5).1, ⟨fun c6 => hP 37 _ _ _ ⟨rfl, ⟨(((b3.2.1 c4).2.2 c5).2.1 c6).1, ⟨rfl, ⟨(((b3.2.1 c4).2.2 c5).2.1 c6).2.1, ⟨fun c7 => hP 55 _ _ _ ⟨fun c8 => hP 95 _ _ _ (((((b3.2.1 c4).2.2 c5).2.1 c6).2.2.1 c7).1 c8), fun c8 => ⟨rfl, ⟨(((((b3.2.1 c4).2.2 c5).2.1 c6).2.2.1 c7).2 c8).1, ⟨rfl, Exists.elim ((((((b3.2.1 c4).2.2 c5).2.1 c6).2.2.1 c7).2 c8).2) fun e9 g9 => Exists.elim g9 fun a9 b9 => ⟨e9, a9, b9.1, hP 74 _ _ _ ⟨fun c10 => hP 95 _ _ _ (b9.2.1 c10), fun c10 => ⟨rfl, ⟨(b9.2.2 c10).1, ⟨rfl, Exists.elim ((b9.2.2 c10).2) fun e11 g11 => Exists.elim g11 fun a11 b11 => ⟨e11, a11, b11.1, hP 92 _ _ _ ⟨fun c12 => hP 98 _ _ _ ⟨rfl, (b11.2.1 c12)⟩, fun c12 => hP 95 _ _ _ (b11.2.2 c12)⟩⟩⟩⟩⟩⟩⟩⟩⟩⟩⟩, fun c7 => ((((b3.2.1 c4).2.2 c5).2.1 c6).2.2.2 c7)⟩⟩⟩⟩⟩, fun c6 => hP 34 _ _ _ (((b3.2.1 c4).2.2 c5).2.2 c6)⟩⟩⟩⟩⟩⟩, fun c4 => hP 14 _ _ _ (b3.2.2 c4)⟩⟩⟩⟩⟩⟩
theorem rg_m_copy_101 {d : Nat} {P : Nat → mj_L → List mj_V → mj_M → Prop} {R : Option mj_V → mj_M → Prop} (hP : mj_Cl mj_c148 (mj_Sp d) (0 < d) P R) {x1 : Int32} {x2 : Int32} {x3 : Int32} {x4 : Int32} {x5 : Int32} {x6 : Int32} {M : mj_M} (h :
  (x5 ≤ x6 →
  P 138 [some (mj_r (30, 60, 0)), some (mj_i x1), some (mj_i x2), some (mj_i x3), some (mj_i x4), some (mj_i x5), some (mj_i (nI 0))] [] M) ∧
  (¬ x5 ≤ x6 →
  vp_in ((((nI 25) * x1) + x2) + x6) 100 ∧ vp_in x6 25 ∧ ∀ M_1 : mj_M, M_1 = mj_wl M (33, 72, 0, x6.toNatClampNeg) (M 35 71 0 ((((nI 25) * x1) + x2) + x6).toNatClampNeg) → ∀ x6_2 : Int32, x6_2 = x6 + (nI 1) → P 101 [some (mj_r (30, 60, 0)), some (mj_i x1), some (mj_i x2), some (mj_i x3), some (mj_i x4), some (mj_i x5), some (mj_i x6_2)] [] M_1)) : P 101 [some (mj_r (30, 60, 0)), some (mj_i x1), some (mj_i x2), some (mj_i x3), some (mj_i x4), some (mj_i x5), some (mj_i x6)] [] M :=
  hP 101 _ _ _ ⟨fun c1 => hP 135 _ _ _ ⟨rfl, (h.1 c1)⟩, fun c1 => ⟨rfl, ⟨rfl, ⟨(h.2 c1).1, ⟨rfl, ⟨(h.2 c1).2.1, ⟨rfl, (((h.2 c1).2.2 _ rfl) _ rfl)⟩⟩⟩⟩⟩⟩⟩
theorem rg_m_copy_138 {d : Nat} {P : Nat → mj_L → List mj_V → mj_M → Prop} {R : Option mj_V → mj_M → Prop} (hP : mj_Cl mj_c148 (mj_Sp d) (0 < d) P R) {x1 : Int32} {x2 : Int32} {x3 : Int32} {x4 : Int32} {x5 : Int32} {x6 : Int32} {M : mj_M} (h :
  (x5 ≤ x6 →
  R (some (mj_i x5)) M) ∧
  (¬ x5 ≤ x6 →
  vp_in x6 25 ∧ vp_in ((((nI 25) * x3) + x4) + x6) 100 ∧ ∀ M_1 : mj_M, M_1 = mj_wl M (35, 71, 0, ((((nI 25) * x3) + x4) + x6).toNatClampNeg) (M 33 72 0 x6.toNatClampNeg) → ∀ x6_2 : Int32, x6_2 = x6 + (nI 1) → P 138 [some (mj_r (30, 60, 0)), some (mj_i x1), some (mj_i x2), some (mj_i x3), some (mj_i x4), some (mj_i x5), some (mj_i x6_2)] [] M_1)) : P 138 [some (mj_r (30, 60, 0)), some (mj_i x1), some (mj_i x2), some (mj_i x3), some (mj_i x4), some (mj_i x5), some (mj_i x6)] [] M :=
  hP 138 _ _ _ ⟨fun c1 => hP 173 _ _ _ (h.1 c1), fun c1 => ⟨rfl, ⟨rfl, ⟨(h.2 c1).1, ⟨rfl, ⟨(h.2 c1).2.1, ⟨rfl, (((h.2 c1).2.2 _ rfl) _ rfl)⟩⟩⟩⟩⟩⟩⟩
