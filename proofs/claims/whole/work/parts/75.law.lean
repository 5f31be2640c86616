/-! THE LAW -/
section
variable {n e i : Nat} {I : zi} {L : zl} {Q : zq}
theorem w_row (h : Inv I L) (h1 : ∀ j, j < 6 → I 1 j = zKL6 j) (h2 : ∀ j, j < 4 → I 2 j = zLE4 j) (hn : i + 6 ≤ n) (hn2 : n ≤ 3072) (nx : ∀ I2 L2, Inv I2 L2 → (∀ k, k < 3 → ∀ j, I2 k j = I k j) → zV n (e + 9) 212 1375 [.ref 0, .ref 3, .ref 62, .int (nI i)] [] I2 L2 Q) : zV n (e + 9) 212 216 [.ref 0, .ref 3, .ref 62, .int (nI i)] [] I L Q := by
  have z1 : zin (nI (i + 1)) n = true := zin_ok (by omega) (by omega)
  have c1 : (nI (i + 1)).toNatClampNeg = i + 1 := nI_clamp (by omega)
  have z2 : zin (nI (i + 2)) n = true := zin_ok (by omega) (by omega)
  have c2 : (nI (i + 2)).toNatClampNeg = i + 2 := nI_clamp (by omega)
  simp only [e212_216, e212_217, e212_218, e212_219, e212_220, e212_221, e212_222, e212_223, e212_224, e212_225, e212_226, e212_227, zpush_some, zpush_none, true_or, or_true, true_and, and_true, ↓reduceIte, zq_ite, zq_itel, zo_3, nI_1, nI_2, nI_3, nI_4, nI_5, z1, c1, z2, c2]
  refine zV_mono (zV_fix (p_row (d := e + 6) h _ _)) (fun v1 I1 L1 q => ?_)
  obtain ⟨hM, hf1⟩ := q
  obtain ⟨x, rfl⟩ := same_of hM
  have f0 : ∀ j, I1 0 j = I 0 j := fun j => hf1 0 (by decide) j
  simp only [e212_230, e212_231, e212_232, e212_233, e212_234, e212_235, e212_236, e212_237, e212_238, e212_239, e212_240, e212_241, zpush_some, zpush_none, true_or, or_true, true_and, and_true, ↓reduceIte, zq_ite, zq_itel, zo_62, nI_1, nI_2, nI_3, nI_4, nI_5, z1, c1, z2, c2, f0]
  refine zV_mono (zV_fix hM) (fun v2 I2 L2 q => ?_)
  obtain ⟨⟨⟨y, e1, rfl⟩, hi⟩, hf2⟩ := q
  cases e1
  simp only [e212_244, e212_247, e212_248, zpush_some, zpush_none, true_or, or_true, true_and, and_true, ↓reduceIte, zq_ite, zq_itel]
  exact nx I2 L2 hi (fun k hk j => by rw [hf2 k hk j, hf1 k hk j])
theorem w_lay (h : Inv I L) (h1 : ∀ j, j < 6 → I 1 j = zKL6 j) (h2 : ∀ j, j < 4 → I 2 j = zLE4 j) (hn : i + 6 ≤ n) (hn2 : n ≤ 3072) (nx : ∀ I2 L2, Inv I2 L2 → (∀ k, k < 3 → ∀ j, I2 k j = I k j) → zV n (e + 9) 212 1375 [.ref 0, .ref 3, .ref 62, .int (nI i)] [] I2 L2 Q) : zV n (e + 9) 212 249 [.ref 0, .ref 3, .ref 62, .int (nI i)] [] I L Q := by
  have z1 : zin (nI (i + 1)) n = true := zin_ok (by omega) (by omega)
  have c1 : (nI (i + 1)).toNatClampNeg = i + 1 := nI_clamp (by omega)
  have z2 : zin (nI (i + 2)) n = true := zin_ok (by omega) (by omega)
  have c2 : (nI (i + 2)).toNatClampNeg = i + 2 := nI_clamp (by omega)
  have z3 : zin (nI (i + 3)) n = true := zin_ok (by omega) (by omega)
  have c3 : (nI (i + 3)).toNatClampNeg = i + 3 := nI_clamp (by omega)
  simp only [e212_249, e212_250, e212_251, e212_252, e212_253, e212_254, e212_255, e212_256, e212_257, e212_258, e212_259, e212_260, e212_261, e212_262, e212_263, e212_264, e212_265, zpush_some, zpush_none, true_or, or_true, true_and, and_true, ↓reduceIte, zq_ite, zq_itel, zo_3, nI_1, nI_2, nI_3, nI_4, nI_5, z1, c1, z2, c2, z3, c3]
  refine zV_mono (zV_fix (p_lay (d := e + 5) h _ _ _)) (fun v1 I1 L1 q => ?_)
  obtain ⟨hM, hf1⟩ := q
  obtain ⟨x, rfl⟩ := same_of hM
  have f0 : ∀ j, I1 0 j = I 0 j := fun j => hf1 0 (by decide) j
  simp only [e212_268, e212_269, e212_270, e212_271, e212_272, e212_273, e212_274, e212_275, e212_276, e212_277, e212_278, e212_279, e212_280, e212_281, e212_282, e212_283, e212_284, zpush_some, zpush_none, true_or, or_true, true_and, and_true, ↓reduceIte, zq_ite, zq_itel, zo_62, nI_1, nI_2, nI_3, nI_4, nI_5, z1, c1, z2, c2, z3, c3, f0]
  refine zV_mono (zV_fix hM) (fun v2 I2 L2 q => ?_)
  obtain ⟨⟨⟨y, e1, rfl⟩, hi⟩, hf2⟩ := q
  cases e1
  simp only [e212_287, e212_290, e212_291, zpush_some, zpush_none, true_or, or_true, true_and, and_true, ↓reduceIte, zq_ite, zq_itel]
  exact nx I2 L2 hi (fun k hk j => by rw [hf2 k hk j, hf1 k hk j])
theorem w_at (h : Inv I L) (h1 : ∀ j, j < 6 → I 1 j = zKL6 j) (h2 : ∀ j, j < 4 → I 2 j = zLE4 j) (hn : i + 6 ≤ n) (hn2 : n ≤ 3072) (nx : ∀ I2 L2, Inv I2 L2 → (∀ k, k < 3 → ∀ j, I2 k j = I k j) → zV n (e + 9) 212 1375 [.ref 0, .ref 3, .ref 62, .int (nI i)] [] I2 L2 Q) : zV n (e + 9) 212 292 [.ref 0, .ref 3, .ref 62, .int (nI i)] [] I L Q := by
  have z1 : zin (nI (i + 1)) n = true := zin_ok (by omega) (by omega)
  have c1 : (nI (i + 1)).toNatClampNeg = i + 1 := nI_clamp (by omega)
  have z2 : zin (nI (i + 2)) n = true := zin_ok (by omega) (by omega)
  have c2 : (nI (i + 2)).toNatClampNeg = i + 2 := nI_clamp (by omega)
  simp only [e212_292, e212_293, e212_294, e212_295, e212_296, e212_297, e212_298, e212_299, e212_300, e212_301, e212_302, e212_303, zpush_some, zpush_none, true_or, or_true, true_and, and_true, ↓reduceIte, zq_ite, zq_itel, zo_3, nI_1, nI_2, nI_3, nI_4, nI_5, z1, c1, z2, c2]
  refine zV_mono (zV_fix (p_at (d := e + 5) h _ _)) (fun v1 I1 L1 q => ?_)
  obtain ⟨hM, hf1⟩ := q
  obtain ⟨x, rfl⟩ := same_of hM
  have f0 : ∀ j, I1 0 j = I 0 j := fun j => hf1 0 (by decide) j
  simp only [e212_306, e212_307, e212_308, e212_309, e212_310, e212_311, e212_312, e212_313, e212_314, e212_315, e212_316, e212_317, zpush_some, zpush_none, true_or, or_true, true_and, and_true, ↓reduceIte, zq_ite, zq_itel, zo_62, nI_1, nI_2, nI_3, nI_4, nI_5, z1, c1, z2, c2, f0]
  refine zV_mono (zV_fix hM) (fun v2 I2 L2 q => ?_)
  obtain ⟨⟨⟨y, e1, rfl⟩, hi⟩, hf2⟩ := q
  cases e1
  simp only [e212_320, e212_323, e212_324, zpush_some, zpush_none, true_or, or_true, true_and, and_true, ↓reduceIte, zq_ite, zq_itel]
  exact nx I2 L2 hi (fun k hk j => by rw [hf2 k hk j, hf1 k hk j])
theorem w_tear (h : Inv I L) (h1 : ∀ j, j < 6 → I 1 j = zKL6 j) (h2 : ∀ j, j < 4 → I 2 j = zLE4 j) (hn : i + 6 ≤ n) (hn2 : n ≤ 3072) (nx : ∀ I2 L2, Inv I2 L2 → (∀ k, k < 3 → ∀ j, I2 k j = I k j) → zV n (e + 9) 212 1375 [.ref 0, .ref 3, .ref 62, .int (nI i)] [] I2 L2 Q) : zV n (e + 9) 212 325 [.ref 0, .ref 3, .ref 62, .int (nI i)] [] I L Q := by
  have z1 : zin (nI (i + 1)) n = true := zin_ok (by omega) (by omega)
  have c1 : (nI (i + 1)).toNatClampNeg = i + 1 := nI_clamp (by omega)
  simp only [e212_325, e212_326, e212_327, e212_328, e212_329, e212_330, e212_331, zpush_some, zpush_none, true_or, or_true, true_and, and_true, ↓reduceIte, zq_ite, zq_itel, zo_3, nI_1, nI_2, nI_3, nI_4, nI_5, z1, c1]
  refine zV_mono (zV_fix (p_tear (d := e + 6) h _)) (fun v1 I1 L1 q => ?_)
  obtain ⟨hM, hf1⟩ := q
  obtain ⟨x, rfl⟩ := same_of hM
  have f0 : ∀ j, I1 0 j = I 0 j := fun j => hf1 0 (by decide) j
  simp only [e212_334, e212_335, e212_336, e212_337, e212_338, e212_339, e212_340, zpush_some, zpush_none, true_or, or_true, true_and, and_true, ↓reduceIte, zq_ite, zq_itel, zo_62, nI_1, nI_2, nI_3, nI_4, nI_5, z1, c1, f0]
  refine zV_mono (zV_fix hM) (fun v2 I2 L2 q => ?_)
  obtain ⟨⟨⟨y, e1, rfl⟩, hi⟩, hf2⟩ := q
  cases e1
  simp only [e212_343, e212_346, e212_347, zpush_some, zpush_none, true_or, or_true, true_and, and_true, ↓reduceIte, zq_ite, zq_itel]
  exact nx I2 L2 hi (fun k hk j => by rw [hf2 k hk j, hf1 k hk j])
theorem w_copy (h : Inv I L) (h1 : ∀ j, j < 6 → I 1 j = zKL6 j) (h2 : ∀ j, j < 4 → I 2 j = zLE4 j) (hn : i + 6 ≤ n) (hn2 : n ≤ 3072) (nx : ∀ I2 L2, Inv I2 L2 → (∀ k, k < 3 → ∀ j, I2 k j = I k j) → zV n (e + 9) 212 1375 [.ref 0, .ref 3, .ref 62, .int (nI i)] [] I2 L2 Q) : zV n (e + 9) 212 348 [.ref 0, .ref 3, .ref 62, .int (nI i)] [] I L Q := by
  have z1 : zin (nI (i + 1)) n = true := zin_ok (by omega) (by omega)
  have c1 : (nI (i + 1)).toNatClampNeg = i + 1 := nI_clamp (by omega)
  have z2 : zin (nI (i + 2)) n = true := zin_ok (by omega) (by omega)
  have c2 : (nI (i + 2)).toNatClampNeg = i + 2 := nI_clamp (by omega)
  have z3 : zin (nI (i + 3)) n = true := zin_ok (by omega) (by omega)
  have c3 : (nI (i + 3)).toNatClampNeg = i + 3 := nI_clamp (by omega)
  have z4 : zin (nI (i + 4)) n = true := zin_ok (by omega) (by omega)
  have c4 : (nI (i + 4)).toNatClampNeg = i + 4 := nI_clamp (by omega)
  have z5 : zin (nI (i + 5)) n = true := zin_ok (by omega) (by omega)
  have c5 : (nI (i + 5)).toNatClampNeg = i + 5 := nI_clamp (by omega)
  simp only [e212_348, e212_349, e212_350, e212_351, e212_352, e212_353, e212_354, e212_355, e212_356, e212_357, e212_358, e212_359, e212_360, e212_361, e212_362, e212_363, e212_364, e212_365, e212_366, e212_367, e212_368, e212_369, e212_370, e212_371, e212_372, e212_373, e212_374, zpush_some, zpush_none, true_or, or_true, true_and, and_true, ↓reduceIte, zq_ite, zq_itel, zo_3, nI_1, nI_2, nI_3, nI_4, nI_5, z1, c1, z2, c2, z3, c3, z4, c4, z5, c5]
  refine zV_mono (zV_fix (p_copy (d := e + 5) h _ _ _ _ _)) (fun v1 I1 L1 q => ?_)
  obtain ⟨hM, hf1⟩ := q
  obtain ⟨x, rfl⟩ := same_of hM
  have f0 : ∀ j, I1 0 j = I 0 j := fun j => hf1 0 (by decide) j
  simp only [e212_377, e212_378, e212_379, e212_380, e212_381, e212_382, e212_383, e212_384, e212_385, e212_386, e212_387, e212_388, e212_389, e212_390, e212_391, e212_392, e212_393, e212_394, e212_395, e212_396, e212_397, e212_398, e212_399, e212_400, e212_401, e212_402, e212_403, zpush_some, zpush_none, true_or, or_true, true_and, and_true, ↓reduceIte, zq_ite, zq_itel, zo_62, nI_1, nI_2, nI_3, nI_4, nI_5, z1, c1, z2, c2, z3, c3, z4, c4, z5, c5, f0]
  refine zV_mono (zV_fix hM) (fun v2 I2 L2 q => ?_)
  obtain ⟨⟨⟨y, e1, rfl⟩, hi⟩, hf2⟩ := q
  cases e1
  simp only [e212_406, e212_409, e212_410, zpush_some, zpush_none, true_or, or_true, true_and, and_true, ↓reduceIte, zq_ite, zq_itel]
  exact nx I2 L2 hi (fun k hk j => by rw [hf2 k hk j, hf1 k hk j])
theorem w_mean (h : Inv I L) (h1 : ∀ j, j < 6 → I 1 j = zKL6 j) (h2 : ∀ j, j < 4 → I 2 j = zLE4 j) (hn : i + 6 ≤ n) (hn2 : n ≤ 3072) (nx : ∀ I2 L2, Inv I2 L2 → (∀ k, k < 3 → ∀ j, I2 k j = I k j) → zV n (e + 9) 212 1375 [.ref 0, .ref 3, .ref 62, .int (nI i)] [] I2 L2 Q) : zV n (e + 9) 212 411 [.ref 0, .ref 3, .ref 62, .int (nI i)] [] I L Q := by
  have z1 : zin (nI (i + 1)) n = true := zin_ok (by omega) (by omega)
  have c1 : (nI (i + 1)).toNatClampNeg = i + 1 := nI_clamp (by omega)
  simp only [e212_411, e212_412, e212_413, e212_414, e212_415, e212_416, e212_417, zpush_some, zpush_none, true_or, or_true, true_and, and_true, ↓reduceIte, zq_ite, zq_itel, zo_3, nI_1, nI_2, nI_3, nI_4, nI_5, z1, c1]
  refine zV_mono (zV_fix (p_mean (d := e + 6) h _)) (fun v1 I1 L1 q => ?_)
  obtain ⟨hM, hf1⟩ := q
  obtain ⟨x, rfl⟩ := same_of hM
  have f0 : ∀ j, I1 0 j = I 0 j := fun j => hf1 0 (by decide) j
  simp only [e212_420, e212_421, e212_422, e212_423, e212_424, e212_425, e212_426, zpush_some, zpush_none, true_or, or_true, true_and, and_true, ↓reduceIte, zq_ite, zq_itel, zo_62, nI_1, nI_2, nI_3, nI_4, nI_5, z1, c1, f0]
  refine zV_mono (zV_fix hM) (fun v2 I2 L2 q => ?_)
  obtain ⟨⟨⟨y, e1, rfl⟩, hi⟩, hf2⟩ := q
  cases e1
  simp only [e212_429, e212_432, e212_433, zpush_some, zpush_none, true_or, or_true, true_and, and_true, ↓reduceIte, zq_ite, zq_itel]
  exact nx I2 L2 hi (fun k hk j => by rw [hf2 k hk j, hf1 k hk j])
theorem w_text (h : Inv I L) (h1 : ∀ j, j < 6 → I 1 j = zKL6 j) (h2 : ∀ j, j < 4 → I 2 j = zLE4 j) (hn : i + 6 ≤ n) (hn2 : n ≤ 3072) (nx : ∀ I2 L2, Inv I2 L2 → (∀ k, k < 3 → ∀ j, I2 k j = I k j) → zV n (e + 9) 212 1375 [.ref 0, .ref 3, .ref 62, .int (nI i)] [] I2 L2 Q) : zV n (e + 9) 212 434 [.ref 0, .ref 3, .ref 62, .int (nI i)] [] I L Q := by
  have z1 : zin (nI (i + 1)) n = true := zin_ok (by omega) (by omega)
  have c1 : (nI (i + 1)).toNatClampNeg = i + 1 := nI_clamp (by omega)
  have z2 : zin (nI (i + 2)) n = true := zin_ok (by omega) (by omega)
  have c2 : (nI (i + 2)).toNatClampNeg = i + 2 := nI_clamp (by omega)
  simp only [e212_434, e212_435, e212_436, e212_437, e212_438, e212_439, e212_440, e212_441, e212_442, e212_443, e212_444, e212_445, zpush_some, zpush_none, true_or, or_true, true_and, and_true, ↓reduceIte, zq_ite, zq_itel, zo_3, nI_1, nI_2, nI_3, nI_4, nI_5, z1, c1, z2, c2]
  refine zV_mono (zV_fix (p_text (d := e + 6) h _ _)) (fun v1 I1 L1 q => ?_)
  obtain ⟨hM, hf1⟩ := q
  obtain ⟨x, rfl⟩ := same_of hM
  have f0 : ∀ j, I1 0 j = I 0 j := fun j => hf1 0 (by decide) j
  simp only [e212_448, e212_449, e212_450, e212_451, e212_452, e212_453, e212_454, e212_455, e212_456, e212_457, e212_458, e212_459, zpush_some, zpush_none, true_or, or_true, true_and, and_true, ↓reduceIte, zq_ite, zq_itel, zo_62, nI_1, nI_2, nI_3, nI_4, nI_5, z1, c1, z2, c2, f0]
  refine zV_mono (zV_fix hM) (fun v2 I2 L2 q => ?_)
  obtain ⟨⟨⟨y, e1, rfl⟩, hi⟩, hf2⟩ := q
  cases e1
  simp only [e212_462, e212_465, e212_466, zpush_some, zpush_none, true_or, or_true, true_and, and_true, ↓reduceIte, zq_ite, zq_itel]
  exact nx I2 L2 hi (fun k hk j => by rw [hf2 k hk j, hf1 k hk j])
theorem w_put (h : Inv I L) (h1 : ∀ j, j < 6 → I 1 j = zKL6 j) (h2 : ∀ j, j < 4 → I 2 j = zLE4 j) (hn : i + 6 ≤ n) (hn2 : n ≤ 3072) (nx : ∀ I2 L2, Inv I2 L2 → (∀ k, k < 3 → ∀ j, I2 k j = I k j) → zV n (e + 9) 212 1375 [.ref 0, .ref 3, .ref 62, .int (nI i)] [] I2 L2 Q) : zV n (e + 9) 212 467 [.ref 0, .ref 3, .ref 62, .int (nI i)] [] I L Q := by
  have z1 : zin (nI (i + 1)) n = true := zin_ok (by omega) (by omega)
  have c1 : (nI (i + 1)).toNatClampNeg = i + 1 := nI_clamp (by omega)
  have z2 : zin (nI (i + 2)) n = true := zin_ok (by omega) (by omega)
  have c2 : (nI (i + 2)).toNatClampNeg = i + 2 := nI_clamp (by omega)
  have z3 : zin (nI (i + 3)) n = true := zin_ok (by omega) (by omega)
  have c3 : (nI (i + 3)).toNatClampNeg = i + 3 := nI_clamp (by omega)
  simp only [e212_467, e212_468, e212_469, e212_470, e212_471, e212_472, e212_473, e212_474, e212_475, e212_476, e212_477, e212_478, e212_479, e212_480, e212_481, e212_482, e212_483, zpush_some, zpush_none, true_or, or_true, true_and, and_true, ↓reduceIte, zq_ite, zq_itel, zo_3, nI_1, nI_2, nI_3, nI_4, nI_5, z1, c1, z2, c2, z3, c3]
  refine zV_mono (zV_fix (p_put (d := e + 5) h _ _ _)) (fun v1 I1 L1 q => ?_)
  obtain ⟨hM, hf1⟩ := q
  obtain ⟨x, rfl⟩ := same_of hM
  have f0 : ∀ j, I1 0 j = I 0 j := fun j => hf1 0 (by decide) j
  simp only [e212_486, e212_487, e212_488, e212_489, e212_490, e212_491, e212_492, e212_493, e212_494, e212_495, e212_496, e212_497, e212_498, e212_499, e212_500, e212_501, e212_502, zpush_some, zpush_none, true_or, or_true, true_and, and_true, ↓reduceIte, zq_ite, zq_itel, zo_62, nI_1, nI_2, nI_3, nI_4, nI_5, z1, c1, z2, c2, z3, c3, f0]
  refine zV_mono (zV_fix hM) (fun v2 I2 L2 q => ?_)
  obtain ⟨⟨⟨y, e1, rfl⟩, hi⟩, hf2⟩ := q
  cases e1
  simp only [e212_505, e212_508, e212_509, zpush_some, zpush_none, true_or, or_true, true_and, and_true, ↓reduceIte, zq_ite, zq_itel]
  exact nx I2 L2 hi (fun k hk j => by rw [hf2 k hk j, hf1 k hk j])
theorem w_fault (h : Inv I L) (h1 : ∀ j, j < 6 → I 1 j = zKL6 j) (h2 : ∀ j, j < 4 → I 2 j = zLE4 j) (hn : i + 6 ≤ n) (hn2 : n ≤ 3072) (nx : ∀ I2 L2, Inv I2 L2 → (∀ k, k < 3 → ∀ j, I2 k j = I k j) → zV n (e + 9) 212 1375 [.ref 0, .ref 3, .ref 62, .int (nI i)] [] I2 L2 Q) : zV n (e + 9) 212 510 [.ref 0, .ref 3, .ref 62, .int (nI i)] [] I L Q := by
  have z1 : zin (nI (i + 1)) n = true := zin_ok (by omega) (by omega)
  have c1 : (nI (i + 1)).toNatClampNeg = i + 1 := nI_clamp (by omega)
  simp only [e212_510, e212_511, e212_512, e212_513, e212_514, e212_515, e212_516, zpush_some, zpush_none, true_or, or_true, true_and, and_true, ↓reduceIte, zq_ite, zq_itel, zo_3, nI_1, nI_2, nI_3, nI_4, nI_5, z1, c1]
  refine zV_mono (zV_fix (p_fault (d := e + 4) h h1 _)) (fun v1 I1 L1 q => ?_)
  obtain ⟨hM, hf1⟩ := q
  obtain ⟨x, rfl⟩ := same_of hM
  have f0 : ∀ j, I1 0 j = I 0 j := fun j => hf1 0 (by decide) j
  simp only [e212_519, e212_520, e212_521, e212_522, e212_523, e212_524, e212_525, zpush_some, zpush_none, true_or, or_true, true_and, and_true, ↓reduceIte, zq_ite, zq_itel, zo_62, nI_1, nI_2, nI_3, nI_4, nI_5, z1, c1, f0]
  refine zV_mono (zV_fix hM) (fun v2 I2 L2 q => ?_)
  obtain ⟨⟨⟨y, e1, rfl⟩, hi⟩, hf2⟩ := q
  cases e1
  simp only [e212_528, e212_531, e212_532, zpush_some, zpush_none, true_or, or_true, true_and, and_true, ↓reduceIte, zq_ite, zq_itel]
  exact nx I2 L2 hi (fun k hk j => by rw [hf2 k hk j, hf1 k hk j])
theorem w_cube (h : Inv I L) (h1 : ∀ j, j < 6 → I 1 j = zKL6 j) (h2 : ∀ j, j < 4 → I 2 j = zLE4 j) (hn : i + 6 ≤ n) (hn2 : n ≤ 3072) (nx : ∀ I2 L2, Inv I2 L2 → (∀ k, k < 3 → ∀ j, I2 k j = I k j) → zV n (e + 9) 212 1375 [.ref 0, .ref 3, .ref 62, .int (nI i)] [] I2 L2 Q) : zV n (e + 9) 212 533 [.ref 0, .ref 3, .ref 62, .int (nI i)] [] I L Q := by
  have z1 : zin (nI (i + 1)) n = true := zin_ok (by omega) (by omega)
  have c1 : (nI (i + 1)).toNatClampNeg = i + 1 := nI_clamp (by omega)
  simp only [e212_533, e212_534, e212_535, e212_536, e212_537, e212_538, e212_539, zpush_some, zpush_none, true_or, or_true, true_and, and_true, ↓reduceIte, zq_ite, zq_itel, zo_3, nI_1, nI_2, nI_3, nI_4, nI_5, z1, c1]
  refine zV_mono (zV_fix (p_cube (d := e + 2) h h1 _)) (fun v1 I1 L1 q => ?_)
  obtain ⟨hM, hf1⟩ := q
  obtain ⟨x, rfl⟩ := same_of hM
  have f0 : ∀ j, I1 0 j = I 0 j := fun j => hf1 0 (by decide) j
  simp only [e212_542, e212_543, e212_544, e212_545, e212_546, e212_547, e212_548, zpush_some, zpush_none, true_or, or_true, true_and, and_true, ↓reduceIte, zq_ite, zq_itel, zo_62, nI_1, nI_2, nI_3, nI_4, nI_5, z1, c1, f0]
  refine zV_mono (zV_fix hM) (fun v2 I2 L2 q => ?_)
  obtain ⟨⟨⟨y, e1, rfl⟩, hi⟩, hf2⟩ := q
  cases e1
  simp only [e212_551, e212_554, e212_555, zpush_some, zpush_none, true_or, or_true, true_and, and_true, ↓reduceIte, zq_ite, zq_itel]
  exact nx I2 L2 hi (fun k hk j => by rw [hf2 k hk j, hf1 k hk j])
theorem w_message (h : Inv I L) (h1 : ∀ j, j < 6 → I 1 j = zKL6 j) (h2 : ∀ j, j < 4 → I 2 j = zLE4 j) (hn : i + 6 ≤ n) (hn2 : n ≤ 3072) (nx : ∀ I2 L2, Inv I2 L2 → (∀ k, k < 3 → ∀ j, I2 k j = I k j) → zV n (e + 9) 212 1375 [.ref 0, .ref 3, .ref 62, .int (nI i)] [] I2 L2 Q) : zV n (e + 9) 212 556 [.ref 0, .ref 3, .ref 62, .int (nI i)] [] I L Q := by
  have z1 : zin (nI (i + 1)) n = true := zin_ok (by omega) (by omega)
  have c1 : (nI (i + 1)).toNatClampNeg = i + 1 := nI_clamp (by omega)
  have z2 : zin (nI (i + 2)) n = true := zin_ok (by omega) (by omega)
  have c2 : (nI (i + 2)).toNatClampNeg = i + 2 := nI_clamp (by omega)
  simp only [e212_556, e212_557, e212_558, e212_559, e212_560, e212_561, e212_562, e212_563, e212_564, e212_565, e212_566, e212_567, zpush_some, zpush_none, true_or, or_true, true_and, and_true, ↓reduceIte, zq_ite, zq_itel, zo_3, nI_1, nI_2, nI_3, nI_4, nI_5, z1, c1, z2, c2]
  refine zV_mono (zV_fix (p_message (d := e + 3) h _ _)) (fun v1 I1 L1 q => ?_)
  obtain ⟨hM, hf1⟩ := q
  obtain ⟨x, rfl⟩ := same_of hM
  have f0 : ∀ j, I1 0 j = I 0 j := fun j => hf1 0 (by decide) j
  simp only [e212_570, e212_571, e212_572, e212_573, e212_574, e212_575, e212_576, e212_577, e212_578, e212_579, e212_580, e212_581, zpush_some, zpush_none, true_or, or_true, true_and, and_true, ↓reduceIte, zq_ite, zq_itel, zo_62, nI_1, nI_2, nI_3, nI_4, nI_5, z1, c1, z2, c2, f0]
  refine zV_mono (zV_fix hM) (fun v2 I2 L2 q => ?_)
  obtain ⟨⟨⟨y, e1, rfl⟩, hi⟩, hf2⟩ := q
  cases e1
  simp only [e212_584, e212_587, e212_588, zpush_some, zpush_none, true_or, or_true, true_and, and_true, ↓reduceIte, zq_ite, zq_itel]
  exact nx I2 L2 hi (fun k hk j => by rw [hf2 k hk j, hf1 k hk j])
theorem w_mark (h : Inv I L) (h1 : ∀ j, j < 6 → I 1 j = zKL6 j) (h2 : ∀ j, j < 4 → I 2 j = zLE4 j) (hn : i + 6 ≤ n) (hn2 : n ≤ 3072) (nx : ∀ I2 L2, Inv I2 L2 → (∀ k, k < 3 → ∀ j, I2 k j = I k j) → zV n (e + 9) 212 1375 [.ref 0, .ref 3, .ref 62, .int (nI i)] [] I2 L2 Q) : zV n (e + 9) 212 589 [.ref 0, .ref 3, .ref 62, .int (nI i)] [] I L Q := by
  have z1 : zin (nI (i + 1)) n = true := zin_ok (by omega) (by omega)
  have c1 : (nI (i + 1)).toNatClampNeg = i + 1 := nI_clamp (by omega)
  have z2 : zin (nI (i + 2)) n = true := zin_ok (by omega) (by omega)
  have c2 : (nI (i + 2)).toNatClampNeg = i + 2 := nI_clamp (by omega)
  simp only [e212_589, e212_590, e212_591, e212_592, e212_593, e212_594, e212_595, e212_596, e212_597, e212_598, e212_599, e212_600, zpush_some, zpush_none, true_or, or_true, true_and, and_true, ↓reduceIte, zq_ite, zq_itel, zo_3, nI_1, nI_2, nI_3, nI_4, nI_5, z1, c1, z2, c2]
  refine zV_mono (zV_fix (p_mark (d := e + 3) h _ _)) (fun v1 I1 L1 q => ?_)
  obtain ⟨hM, hf1⟩ := q
  obtain ⟨x, rfl⟩ := same_of hM
  have f0 : ∀ j, I1 0 j = I 0 j := fun j => hf1 0 (by decide) j
  simp only [e212_603, e212_604, e212_605, e212_606, e212_607, e212_608, e212_609, e212_610, e212_611, e212_612, e212_613, e212_614, zpush_some, zpush_none, true_or, or_true, true_and, and_true, ↓reduceIte, zq_ite, zq_itel, zo_62, nI_1, nI_2, nI_3, nI_4, nI_5, z1, c1, z2, c2, f0]
  refine zV_mono (zV_fix hM) (fun v2 I2 L2 q => ?_)
  obtain ⟨⟨⟨y, e1, rfl⟩, hi⟩, hf2⟩ := q
  cases e1
  simp only [e212_617, e212_620, e212_621, zpush_some, zpush_none, true_or, or_true, true_and, and_true, ↓reduceIte, zq_ite, zq_itel]
  exact nx I2 L2 hi (fun k hk j => by rw [hf2 k hk j, hf1 k hk j])
theorem w_link (h : Inv I L) (h1 : ∀ j, j < 6 → I 1 j = zKL6 j) (h2 : ∀ j, j < 4 → I 2 j = zLE4 j) (hn : i + 6 ≤ n) (hn2 : n ≤ 3072) (nx : ∀ I2 L2, Inv I2 L2 → (∀ k, k < 3 → ∀ j, I2 k j = I k j) → zV n (e + 9) 212 1375 [.ref 0, .ref 3, .ref 62, .int (nI i)] [] I2 L2 Q) : zV n (e + 9) 212 622 [.ref 0, .ref 3, .ref 62, .int (nI i)] [] I L Q := by
  have z1 : zin (nI (i + 1)) n = true := zin_ok (by omega) (by omega)
  have c1 : (nI (i + 1)).toNatClampNeg = i + 1 := nI_clamp (by omega)
  simp only [e212_622, e212_623, e212_624, e212_625, e212_626, e212_627, e212_628, zpush_some, zpush_none, true_or, or_true, true_and, and_true, ↓reduceIte, zq_ite, zq_itel, zo_3, nI_1, nI_2, nI_3, nI_4, nI_5, z1, c1]
  refine zV_mono (zV_fix (p_link (d := e + 4) h _)) (fun v1 I1 L1 q => ?_)
  obtain ⟨hM, hf1⟩ := q
  obtain ⟨x, rfl⟩ := same_of hM
  have f0 : ∀ j, I1 0 j = I 0 j := fun j => hf1 0 (by decide) j
  simp only [e212_631, e212_632, e212_633, e212_634, e212_635, e212_636, e212_637, zpush_some, zpush_none, true_or, or_true, true_and, and_true, ↓reduceIte, zq_ite, zq_itel, zo_62, nI_1, nI_2, nI_3, nI_4, nI_5, z1, c1, f0]
  refine zV_mono (zV_fix hM) (fun v2 I2 L2 q => ?_)
  obtain ⟨⟨⟨y, e1, rfl⟩, hi⟩, hf2⟩ := q
  cases e1
  simp only [e212_640, e212_643, e212_644, zpush_some, zpush_none, true_or, or_true, true_and, and_true, ↓reduceIte, zq_ite, zq_itel]
  exact nx I2 L2 hi (fun k hk j => by rw [hf2 k hk j, hf1 k hk j])
theorem w_step (h : Inv I L) (h1 : ∀ j, j < 6 → I 1 j = zKL6 j) (h2 : ∀ j, j < 4 → I 2 j = zLE4 j) (hn : i + 6 ≤ n) (hn2 : n ≤ 3072) (nx : ∀ I2 L2, Inv I2 L2 → (∀ k, k < 3 → ∀ j, I2 k j = I k j) → zV n (e + 9) 212 1375 [.ref 0, .ref 3, .ref 62, .int (nI i)] [] I2 L2 Q) : zV n (e + 9) 212 645 [.ref 0, .ref 3, .ref 62, .int (nI i)] [] I L Q := by
  simp only [e212_645, e212_646, zpush_some, zpush_none, true_or, or_true, true_and, and_true, ↓reduceIte, zq_ite, zq_itel, zo_3]
  refine zV_mono (zV_fix (p_step (d := e + 2) h)) (fun v1 I1 L1 q => ?_)
  obtain ⟨hM, hf1⟩ := q
  obtain ⟨x, rfl⟩ := same_of hM
  simp only [e212_649, e212_650, zpush_some, zpush_none, true_or, or_true, true_and, and_true, ↓reduceIte, zq_ite, zq_itel, zo_62]
  refine zV_mono (zV_fix hM) (fun v2 I2 L2 q => ?_)
  obtain ⟨⟨⟨y, e1, rfl⟩, hi⟩, hf2⟩ := q
  cases e1
  simp only [e212_653, e212_656, e212_657, zpush_some, zpush_none, true_or, or_true, true_and, and_true, ↓reduceIte, zq_ite, zq_itel]
  exact nx I2 L2 hi (fun k hk j => by rw [hf2 k hk j, hf1 k hk j])
theorem w_snap (h : Inv I L) (h1 : ∀ j, j < 6 → I 1 j = zKL6 j) (h2 : ∀ j, j < 4 → I 2 j = zLE4 j) (hn : i + 6 ≤ n) (hn2 : n ≤ 3072) (nx : ∀ I2 L2, Inv I2 L2 → (∀ k, k < 3 → ∀ j, I2 k j = I k j) → zV n (e + 9) 212 1375 [.ref 0, .ref 3, .ref 62, .int (nI i)] [] I2 L2 Q) : zV n (e + 9) 212 658 [.ref 0, .ref 3, .ref 62, .int (nI i)] [] I L Q := by
  have z1 : zin (nI (i + 1)) n = true := zin_ok (by omega) (by omega)
  have c1 : (nI (i + 1)).toNatClampNeg = i + 1 := nI_clamp (by omega)
  simp only [e212_658, e212_659, e212_660, e212_661, e212_662, e212_663, e212_664, zpush_some, zpush_none, true_or, or_true, true_and, and_true, ↓reduceIte, zq_ite, zq_itel, zo_3, nI_1, nI_2, nI_3, nI_4, nI_5, z1, c1]
  refine zV_mono (zV_fix (p_snap (d := e + 1) h _)) (fun v1 I1 L1 q => ?_)
  obtain ⟨hM, hf1⟩ := q
  obtain ⟨x, rfl⟩ := same_of hM
  have f0 : ∀ j, I1 0 j = I 0 j := fun j => hf1 0 (by decide) j
  simp only [e212_667, e212_668, e212_669, e212_670, e212_671, e212_672, e212_673, zpush_some, zpush_none, true_or, or_true, true_and, and_true, ↓reduceIte, zq_ite, zq_itel, zo_62, nI_1, nI_2, nI_3, nI_4, nI_5, z1, c1, f0]
  refine zV_mono (zV_fix hM) (fun v2 I2 L2 q => ?_)
  obtain ⟨⟨⟨y, e1, rfl⟩, hi⟩, hf2⟩ := q
  cases e1
  simp only [e212_676, e212_679, e212_680, zpush_some, zpush_none, true_or, or_true, true_and, and_true, ↓reduceIte, zq_ite, zq_itel]
  exact nx I2 L2 hi (fun k hk j => by rw [hf2 k hk j, hf1 k hk j])
theorem w_mend (h : Inv I L) (h1 : ∀ j, j < 6 → I 1 j = zKL6 j) (h2 : ∀ j, j < 4 → I 2 j = zLE4 j) (hn : i + 6 ≤ n) (hn2 : n ≤ 3072) (nx : ∀ I2 L2, Inv I2 L2 → (∀ k, k < 3 → ∀ j, I2 k j = I k j) → zV n (e + 9) 212 1375 [.ref 0, .ref 3, .ref 62, .int (nI i)] [] I2 L2 Q) : zV n (e + 9) 212 681 [.ref 0, .ref 3, .ref 62, .int (nI i)] [] I L Q := by
  have z1 : zin (nI (i + 1)) n = true := zin_ok (by omega) (by omega)
  have c1 : (nI (i + 1)).toNatClampNeg = i + 1 := nI_clamp (by omega)
  simp only [e212_681, e212_682, e212_683, e212_684, e212_685, e212_686, e212_687, zpush_some, zpush_none, true_or, or_true, true_and, and_true, ↓reduceIte, zq_ite, zq_itel, zo_3, nI_1, nI_2, nI_3, nI_4, nI_5, z1, c1]
  refine zV_mono (zV_fix (p_mend (d := e + 1) h _)) (fun v1 I1 L1 q => ?_)
  obtain ⟨hM, hf1⟩ := q
  obtain ⟨x, rfl⟩ := same_of hM
  have f0 : ∀ j, I1 0 j = I 0 j := fun j => hf1 0 (by decide) j
  simp only [e212_690, e212_691, e212_692, e212_693, e212_694, e212_695, e212_696, zpush_some, zpush_none, true_or, or_true, true_and, and_true, ↓reduceIte, zq_ite, zq_itel, zo_62, nI_1, nI_2, nI_3, nI_4, nI_5, z1, c1, f0]
  refine zV_mono (zV_fix hM) (fun v2 I2 L2 q => ?_)
  obtain ⟨⟨⟨y, e1, rfl⟩, hi⟩, hf2⟩ := q
  cases e1
  simp only [e212_699, e212_702, e212_703, zpush_some, zpush_none, true_or, or_true, true_and, and_true, ↓reduceIte, zq_ite, zq_itel]
  exact nx I2 L2 hi (fun k hk j => by rw [hf2 k hk j, hf1 k hk j])
theorem w_aim (h : Inv I L) (h1 : ∀ j, j < 6 → I 1 j = zKL6 j) (h2 : ∀ j, j < 4 → I 2 j = zLE4 j) (hn : i + 6 ≤ n) (hn2 : n ≤ 3072) (nx : ∀ I2 L2, Inv I2 L2 → (∀ k, k < 3 → ∀ j, I2 k j = I k j) → zV n (e + 9) 212 1375 [.ref 0, .ref 3, .ref 62, .int (nI i)] [] I2 L2 Q) : zV n (e + 9) 212 704 [.ref 0, .ref 3, .ref 62, .int (nI i)] [] I L Q := by
  have z1 : zin (nI (i + 1)) n = true := zin_ok (by omega) (by omega)
  have c1 : (nI (i + 1)).toNatClampNeg = i + 1 := nI_clamp (by omega)
  have z2 : zin (nI (i + 2)) n = true := zin_ok (by omega) (by omega)
  have c2 : (nI (i + 2)).toNatClampNeg = i + 2 := nI_clamp (by omega)
  simp only [e212_704, e212_705, e212_706, e212_707, e212_708, e212_709, e212_710, e212_711, e212_712, e212_713, e212_714, e212_715, zpush_some, zpush_none, true_or, or_true, true_and, and_true, ↓reduceIte, zq_ite, zq_itel, zo_3, nI_1, nI_2, nI_3, nI_4, nI_5, z1, c1, z2, c2]
  refine zV_mono (zV_fix (p_aim (d := e + 2) h _ _)) (fun v1 I1 L1 q => ?_)
  obtain ⟨hM, hf1⟩ := q
  obtain ⟨x, rfl⟩ := same_of hM
  have f0 : ∀ j, I1 0 j = I 0 j := fun j => hf1 0 (by decide) j
  simp only [e212_718, e212_719, e212_720, e212_721, e212_722, e212_723, e212_724, e212_725, e212_726, e212_727, e212_728, e212_729, zpush_some, zpush_none, true_or, or_true, true_and, and_true, ↓reduceIte, zq_ite, zq_itel, zo_62, nI_1, nI_2, nI_3, nI_4, nI_5, z1, c1, z2, c2, f0]
  refine zV_mono (zV_fix hM) (fun v2 I2 L2 q => ?_)
  obtain ⟨⟨⟨y, e1, rfl⟩, hi⟩, hf2⟩ := q
  cases e1
  simp only [e212_732, e212_735, e212_736, zpush_some, zpush_none, true_or, or_true, true_and, and_true, ↓reduceIte, zq_ite, zq_itel]
  exact nx I2 L2 hi (fun k hk j => by rw [hf2 k hk j, hf1 k hk j])
theorem w_undo (h : Inv I L) (h1 : ∀ j, j < 6 → I 1 j = zKL6 j) (h2 : ∀ j, j < 4 → I 2 j = zLE4 j) (hn : i + 6 ≤ n) (hn2 : n ≤ 3072) (nx : ∀ I2 L2, Inv I2 L2 → (∀ k, k < 3 → ∀ j, I2 k j = I k j) → zV n (e + 9) 212 1375 [.ref 0, .ref 3, .ref 62, .int (nI i)] [] I2 L2 Q) : zV n (e + 9) 212 737 [.ref 0, .ref 3, .ref 62, .int (nI i)] [] I L Q := by
  have z1 : zin (nI (i + 1)) n = true := zin_ok (by omega) (by omega)
  have c1 : (nI (i + 1)).toNatClampNeg = i + 1 := nI_clamp (by omega)
  simp only [e212_737, e212_738, e212_739, e212_740, e212_741, e212_742, e212_743, zpush_some, zpush_none, true_or, or_true, true_and, and_true, ↓reduceIte, zq_ite, zq_itel, zo_3, nI_1, nI_2, nI_3, nI_4, nI_5, z1, c1]
  refine zV_mono (zV_fix (p_undo (d := e + 2) h _)) (fun v1 I1 L1 q => ?_)
  obtain ⟨hM, hf1⟩ := q
  obtain ⟨x, rfl⟩ := same_of hM
  have f0 : ∀ j, I1 0 j = I 0 j := fun j => hf1 0 (by decide) j
  simp only [e212_746, e212_747, e212_748, e212_749, e212_750, e212_751, e212_752, zpush_some, zpush_none, true_or, or_true, true_and, and_true, ↓reduceIte, zq_ite, zq_itel, zo_62, nI_1, nI_2, nI_3, nI_4, nI_5, z1, c1, f0]
  refine zV_mono (zV_fix hM) (fun v2 I2 L2 q => ?_)
  obtain ⟨⟨⟨y, e1, rfl⟩, hi⟩, hf2⟩ := q
  cases e1
  simp only [e212_755, e212_758, e212_759, zpush_some, zpush_none, true_or, or_true, true_and, and_true, ↓reduceIte, zq_ite, zq_itel]
  exact nx I2 L2 hi (fun k hk j => by rw [hf2 k hk j, hf1 k hk j])
theorem w_keep (h : Inv I L) (h1 : ∀ j, j < 6 → I 1 j = zKL6 j) (h2 : ∀ j, j < 4 → I 2 j = zLE4 j) (hn : i + 6 ≤ n) (hn2 : n ≤ 3072) (nx : ∀ I2 L2, Inv I2 L2 → (∀ k, k < 3 → ∀ j, I2 k j = I k j) → zV n (e + 9) 212 1375 [.ref 0, .ref 3, .ref 62, .int (nI i)] [] I2 L2 Q) : zV n (e + 9) 212 760 [.ref 0, .ref 3, .ref 62, .int (nI i)] [] I L Q := by
  have z1 : zin (nI (i + 1)) n = true := zin_ok (by omega) (by omega)
  have c1 : (nI (i + 1)).toNatClampNeg = i + 1 := nI_clamp (by omega)
  simp only [e212_760, e212_761, e212_762, e212_763, e212_764, e212_765, e212_766, zpush_some, zpush_none, true_or, or_true, true_and, and_true, ↓reduceIte, zq_ite, zq_itel, zo_3, nI_1, nI_2, nI_3, nI_4, nI_5, z1, c1]
  refine zV_mono (zV_fix (p_keep (d := e + 5) h _)) (fun v1 I1 L1 q => ?_)
  obtain ⟨hM, hf1⟩ := q
  obtain ⟨x, rfl⟩ := same_of hM
  have f0 : ∀ j, I1 0 j = I 0 j := fun j => hf1 0 (by decide) j
  simp only [e212_769, e212_770, e212_771, e212_772, e212_773, e212_774, e212_775, zpush_some, zpush_none, true_or, or_true, true_and, and_true, ↓reduceIte, zq_ite, zq_itel, zo_62, nI_1, nI_2, nI_3, nI_4, nI_5, z1, c1, f0]
  refine zV_mono (zV_fix hM) (fun v2 I2 L2 q => ?_)
  obtain ⟨⟨⟨y, e1, rfl⟩, hi⟩, hf2⟩ := q
  cases e1
  simp only [e212_778, e212_781, e212_782, zpush_some, zpush_none, true_or, or_true, true_and, and_true, ↓reduceIte, zq_ite, zq_itel]
  exact nx I2 L2 hi (fun k hk j => by rw [hf2 k hk j, hf1 k hk j])
theorem w_on (h : Inv I L) (h1 : ∀ j, j < 6 → I 1 j = zKL6 j) (h2 : ∀ j, j < 4 → I 2 j = zLE4 j) (hn : i + 6 ≤ n) (hn2 : n ≤ 3072) (nx : ∀ I2 L2, Inv I2 L2 → (∀ k, k < 3 → ∀ j, I2 k j = I k j) → zV n (e + 9) 212 1375 [.ref 0, .ref 3, .ref 62, .int (nI i)] [] I2 L2 Q) : zV n (e + 9) 212 783 [.ref 0, .ref 3, .ref 62, .int (nI i)] [] I L Q := by
  have z1 : zin (nI (i + 1)) n = true := zin_ok (by omega) (by omega)
  have c1 : (nI (i + 1)).toNatClampNeg = i + 1 := nI_clamp (by omega)
  simp only [e212_783, e212_784, e212_785, e212_786, e212_787, e212_788, e212_789, zpush_some, zpush_none, true_or, or_true, true_and, and_true, ↓reduceIte, zq_ite, zq_itel, zo_3, nI_1, nI_2, nI_3, nI_4, nI_5, z1, c1]
  refine zV_mono (zV_fix (p_on (d := e + 2) h _)) (fun v1 I1 L1 q => ?_)
  obtain ⟨hM, hf1⟩ := q
  obtain ⟨x, rfl⟩ := same_of hM
  have f0 : ∀ j, I1 0 j = I 0 j := fun j => hf1 0 (by decide) j
  simp only [e212_792, e212_793, e212_794, e212_795, e212_796, e212_797, e212_798, zpush_some, zpush_none, true_or, or_true, true_and, and_true, ↓reduceIte, zq_ite, zq_itel, zo_62, nI_1, nI_2, nI_3, nI_4, nI_5, z1, c1, f0]
  refine zV_mono (zV_fix hM) (fun v2 I2 L2 q => ?_)
  obtain ⟨⟨⟨y, e1, rfl⟩, hi⟩, hf2⟩ := q
  cases e1
  simp only [e212_801, e212_804, e212_805, zpush_some, zpush_none, true_or, or_true, true_and, and_true, ↓reduceIte, zq_ite, zq_itel]
  exact nx I2 L2 hi (fun k hk j => by rw [hf2 k hk j, hf1 k hk j])
theorem w_later (h : Inv I L) (h1 : ∀ j, j < 6 → I 1 j = zKL6 j) (h2 : ∀ j, j < 4 → I 2 j = zLE4 j) (hn : i + 6 ≤ n) (hn2 : n ≤ 3072) (nx : ∀ I2 L2, Inv I2 L2 → (∀ k, k < 3 → ∀ j, I2 k j = I k j) → zV n (e + 9) 212 1375 [.ref 0, .ref 3, .ref 62, .int (nI i)] [] I2 L2 Q) : zV n (e + 9) 212 806 [.ref 0, .ref 3, .ref 62, .int (nI i)] [] I L Q := by
  have z1 : zin (nI (i + 1)) n = true := zin_ok (by omega) (by omega)
  have c1 : (nI (i + 1)).toNatClampNeg = i + 1 := nI_clamp (by omega)
  have z2 : zin (nI (i + 2)) n = true := zin_ok (by omega) (by omega)
  have c2 : (nI (i + 2)).toNatClampNeg = i + 2 := nI_clamp (by omega)
  simp only [e212_806, e212_807, e212_808, e212_809, e212_810, e212_811, e212_812, e212_813, e212_814, e212_815, e212_816, e212_817, zpush_some, zpush_none, true_or, or_true, true_and, and_true, ↓reduceIte, zq_ite, zq_itel, zo_3, nI_1, nI_2, nI_3, nI_4, nI_5, z1, c1, z2, c2]
  refine zV_mono (zV_fix (p_later (d := e + 3) h _ _)) (fun v1 I1 L1 q => ?_)
  obtain ⟨hM, hf1⟩ := q
  obtain ⟨x, rfl⟩ := same_of hM
  have f0 : ∀ j, I1 0 j = I 0 j := fun j => hf1 0 (by decide) j
  simp only [e212_820, e212_821, e212_822, e212_823, e212_824, e212_825, e212_826, e212_827, e212_828, e212_829, e212_830, e212_831, zpush_some, zpush_none, true_or, or_true, true_and, and_true, ↓reduceIte, zq_ite, zq_itel, zo_62, nI_1, nI_2, nI_3, nI_4, nI_5, z1, c1, z2, c2, f0]
  refine zV_mono (zV_fix hM) (fun v2 I2 L2 q => ?_)
  obtain ⟨⟨⟨y, e1, rfl⟩, hi⟩, hf2⟩ := q
  cases e1
  simp only [e212_834, e212_837, e212_838, zpush_some, zpush_none, true_or, or_true, true_and, and_true, ↓reduceIte, zq_ite, zq_itel]
  exact nx I2 L2 hi (fun k hk j => by rw [hf2 k hk j, hf1 k hk j])
theorem w_arrives (h : Inv I L) (h1 : ∀ j, j < 6 → I 1 j = zKL6 j) (h2 : ∀ j, j < 4 → I 2 j = zLE4 j) (hn : i + 6 ≤ n) (hn2 : n ≤ 3072) (nx : ∀ I2 L2, Inv I2 L2 → (∀ k, k < 3 → ∀ j, I2 k j = I k j) → zV n (e + 9) 212 1375 [.ref 0, .ref 3, .ref 62, .int (nI i)] [] I2 L2 Q) : zV n (e + 9) 212 839 [.ref 0, .ref 3, .ref 62, .int (nI i)] [] I L Q := by
  have z1 : zin (nI (i + 1)) n = true := zin_ok (by omega) (by omega)
  have c1 : (nI (i + 1)).toNatClampNeg = i + 1 := nI_clamp (by omega)
  simp only [e212_839, e212_840, e212_841, e212_842, e212_843, e212_844, e212_845, zpush_some, zpush_none, true_or, or_true, true_and, and_true, ↓reduceIte, zq_ite, zq_itel, zo_3, nI_1, nI_2, nI_3, nI_4, nI_5, z1, c1]
  refine zV_mono (zV_fix (p_arrives (d := e + 3) h _)) (fun v1 I1 L1 q => ?_)
  obtain ⟨hM, hf1⟩ := q
  obtain ⟨x, rfl⟩ := same_of hM
  have f0 : ∀ j, I1 0 j = I 0 j := fun j => hf1 0 (by decide) j
  simp only [e212_848, e212_849, e212_850, e212_851, e212_852, e212_853, e212_854, zpush_some, zpush_none, true_or, or_true, true_and, and_true, ↓reduceIte, zq_ite, zq_itel, zo_62, nI_1, nI_2, nI_3, nI_4, nI_5, z1, c1, f0]
  refine zV_mono (zV_fix hM) (fun v2 I2 L2 q => ?_)
  obtain ⟨⟨⟨y, e1, rfl⟩, hi⟩, hf2⟩ := q
  cases e1
  simp only [e212_857, e212_860, e212_861, zpush_some, zpush_none, true_or, or_true, true_and, and_true, ↓reduceIte, zq_ite, zq_itel]
  exact nx I2 L2 hi (fun k hk j => by rw [hf2 k hk j, hf1 k hk j])
theorem w_all (h : Inv I L) (h1 : ∀ j, j < 6 → I 1 j = zKL6 j) (h2 : ∀ j, j < 4 → I 2 j = zLE4 j) (hn : i + 6 ≤ n) (hn2 : n ≤ 3072) (nx : ∀ I2 L2, Inv I2 L2 → (∀ k, k < 3 → ∀ j, I2 k j = I k j) → zV n (e + 9) 212 1375 [.ref 0, .ref 3, .ref 62, .int (nI i)] [] I2 L2 Q) : zV n (e + 9) 212 862 [.ref 0, .ref 3, .ref 62, .int (nI i)] [] I L Q := by
  simp only [e212_862, e212_863, zpush_some, zpush_none, true_or, or_true, true_and, and_true, ↓reduceIte, zq_ite, zq_itel, zo_3]
  refine zV_mono (zV_fix (p_all (d := e + 2) h)) (fun v1 I1 L1 q => ?_)
  obtain ⟨hM, hf1⟩ := q
  obtain ⟨x, rfl⟩ := same_of hM
  simp only [e212_866, e212_867, zpush_some, zpush_none, true_or, or_true, true_and, and_true, ↓reduceIte, zq_ite, zq_itel, zo_62]
  refine zV_mono (zV_fix hM) (fun v2 I2 L2 q => ?_)
  obtain ⟨⟨⟨y, e1, rfl⟩, hi⟩, hf2⟩ := q
  cases e1
  simp only [e212_870, e212_873, e212_874, zpush_some, zpush_none, true_or, or_true, true_and, and_true, ↓reduceIte, zq_ite, zq_itel]
  exact nx I2 L2 hi (fun k hk j => by rw [hf2 k hk j, hf1 k hk j])
theorem w_tight (h : Inv I L) (h1 : ∀ j, j < 6 → I 1 j = zKL6 j) (h2 : ∀ j, j < 4 → I 2 j = zLE4 j) (hn : i + 6 ≤ n) (hn2 : n ≤ 3072) (nx : ∀ I2 L2, Inv I2 L2 → (∀ k, k < 3 → ∀ j, I2 k j = I k j) → zV n (e + 9) 212 1375 [.ref 0, .ref 3, .ref 62, .int (nI i)] [] I2 L2 Q) : zV n (e + 9) 212 875 [.ref 0, .ref 3, .ref 62, .int (nI i)] [] I L Q := by
  have z1 : zin (nI (i + 1)) n = true := zin_ok (by omega) (by omega)
  have c1 : (nI (i + 1)).toNatClampNeg = i + 1 := nI_clamp (by omega)
  simp only [e212_875, e212_876, e212_877, e212_878, e212_879, e212_880, e212_881, zpush_some, zpush_none, true_or, or_true, true_and, and_true, ↓reduceIte, zq_ite, zq_itel, zo_3, nI_1, nI_2, nI_3, nI_4, nI_5, z1, c1]
  refine zV_mono (zV_fix (p_tight (d := e + 2) h _)) (fun v1 I1 L1 q => ?_)
  obtain ⟨hM, hf1⟩ := q
  obtain ⟨x, rfl⟩ := same_of hM
  have f0 : ∀ j, I1 0 j = I 0 j := fun j => hf1 0 (by decide) j
  simp only [e212_884, e212_885, e212_886, e212_887, e212_888, e212_889, e212_890, zpush_some, zpush_none, true_or, or_true, true_and, and_true, ↓reduceIte, zq_ite, zq_itel, zo_62, nI_1, nI_2, nI_3, nI_4, nI_5, z1, c1, f0]
  refine zV_mono (zV_fix hM) (fun v2 I2 L2 q => ?_)
  obtain ⟨⟨⟨y, e1, rfl⟩, hi⟩, hf2⟩ := q
  cases e1
  simp only [e212_893, e212_896, e212_897, zpush_some, zpush_none, true_or, or_true, true_and, and_true, ↓reduceIte, zq_ite, zq_itel]
  exact nx I2 L2 hi (fun k hk j => by rw [hf2 k hk j, hf1 k hk j])
theorem w_far (h : Inv I L) (h1 : ∀ j, j < 6 → I 1 j = zKL6 j) (h2 : ∀ j, j < 4 → I 2 j = zLE4 j) (hn : i + 6 ≤ n) (hn2 : n ≤ 3072) (nx : ∀ I2 L2, Inv I2 L2 → (∀ k, k < 3 → ∀ j, I2 k j = I k j) → zV n (e + 9) 212 1375 [.ref 0, .ref 3, .ref 62, .int (nI i)] [] I2 L2 Q) : zV n (e + 9) 212 898 [.ref 0, .ref 3, .ref 62, .int (nI i)] [] I L Q := by
  have z1 : zin (nI (i + 1)) n = true := zin_ok (by omega) (by omega)
  have c1 : (nI (i + 1)).toNatClampNeg = i + 1 := nI_clamp (by omega)
  have z2 : zin (nI (i + 2)) n = true := zin_ok (by omega) (by omega)
  have c2 : (nI (i + 2)).toNatClampNeg = i + 2 := nI_clamp (by omega)
  simp only [e212_898, e212_899, e212_900, e212_901, e212_902, e212_903, e212_904, e212_905, e212_906, e212_907, e212_908, e212_909, zpush_some, zpush_none, true_or, or_true, true_and, and_true, ↓reduceIte, zq_ite, zq_itel, zo_3, nI_1, nI_2, nI_3, nI_4, nI_5, z1, c1, z2, c2]
  refine zV_mono (zV_fix (p_far (d := e + 5) h h2 _ _)) (fun v1 I1 L1 q => ?_)
  obtain ⟨hM, hf1⟩ := q
  obtain ⟨x, rfl⟩ := same_of hM
  have f0 : ∀ j, I1 0 j = I 0 j := fun j => hf1 0 (by decide) j
  simp only [e212_912, e212_913, e212_914, e212_915, e212_916, e212_917, e212_918, e212_919, e212_920, e212_921, e212_922, e212_923, zpush_some, zpush_none, true_or, or_true, true_and, and_true, ↓reduceIte, zq_ite, zq_itel, zo_62, nI_1, nI_2, nI_3, nI_4, nI_5, z1, c1, z2, c2, f0]
  refine zV_mono (zV_fix hM) (fun v2 I2 L2 q => ?_)
  obtain ⟨⟨⟨y, e1, rfl⟩, hi⟩, hf2⟩ := q
  cases e1
  simp only [e212_926, e212_929, e212_930, zpush_some, zpush_none, true_or, or_true, true_and, and_true, ↓reduceIte, zq_ite, zq_itel]
  exact nx I2 L2 hi (fun k hk j => by rw [hf2 k hk j, hf1 k hk j])
theorem w_reach (h : Inv I L) (h1 : ∀ j, j < 6 → I 1 j = zKL6 j) (h2 : ∀ j, j < 4 → I 2 j = zLE4 j) (hn : i + 6 ≤ n) (hn2 : n ≤ 3072) (nx : ∀ I2 L2, Inv I2 L2 → (∀ k, k < 3 → ∀ j, I2 k j = I k j) → zV n (e + 9) 212 1375 [.ref 0, .ref 3, .ref 62, .int (nI i)] [] I2 L2 Q) : zV n (e + 9) 212 931 [.ref 0, .ref 3, .ref 62, .int (nI i)] [] I L Q := by
  have z1 : zin (nI (i + 1)) n = true := zin_ok (by omega) (by omega)
  have c1 : (nI (i + 1)).toNatClampNeg = i + 1 := nI_clamp (by omega)
  simp only [e212_931, e212_932, e212_933, e212_934, e212_935, e212_936, e212_937, zpush_some, zpush_none, true_or, or_true, true_and, and_true, ↓reduceIte, zq_ite, zq_itel, zo_3, nI_1, nI_2, nI_3, nI_4, nI_5, z1, c1]
  refine zV_mono (zV_fix (p_reach (d := e + 5) h h2 _)) (fun v1 I1 L1 q => ?_)
  obtain ⟨hM, hf1⟩ := q
  obtain ⟨x, rfl⟩ := same_of hM
  have f0 : ∀ j, I1 0 j = I 0 j := fun j => hf1 0 (by decide) j
  simp only [e212_940, e212_941, e212_942, e212_943, e212_944, e212_945, e212_946, zpush_some, zpush_none, true_or, or_true, true_and, and_true, ↓reduceIte, zq_ite, zq_itel, zo_62, nI_1, nI_2, nI_3, nI_4, nI_5, z1, c1, f0]
  refine zV_mono (zV_fix hM) (fun v2 I2 L2 q => ?_)
  obtain ⟨⟨⟨y, e1, rfl⟩, hi⟩, hf2⟩ := q
  cases e1
  simp only [e212_949, e212_952, e212_953, zpush_some, zpush_none, true_or, or_true, true_and, and_true, ↓reduceIte, zq_ite, zq_itel]
  exact nx I2 L2 hi (fun k hk j => by rw [hf2 k hk j, hf1 k hk j])
theorem w_parts (h : Inv I L) (h1 : ∀ j, j < 6 → I 1 j = zKL6 j) (h2 : ∀ j, j < 4 → I 2 j = zLE4 j) (hn : i + 6 ≤ n) (hn2 : n ≤ 3072) (nx : ∀ I2 L2, Inv I2 L2 → (∀ k, k < 3 → ∀ j, I2 k j = I k j) → zV n (e + 9) 212 1375 [.ref 0, .ref 3, .ref 62, .int (nI i)] [] I2 L2 Q) : zV n (e + 9) 212 954 [.ref 0, .ref 3, .ref 62, .int (nI i)] [] I L Q := by
  have z1 : zin (nI (i + 1)) n = true := zin_ok (by omega) (by omega)
  have c1 : (nI (i + 1)).toNatClampNeg = i + 1 := nI_clamp (by omega)
  have z2 : zin (nI (i + 2)) n = true := zin_ok (by omega) (by omega)
  have c2 : (nI (i + 2)).toNatClampNeg = i + 2 := nI_clamp (by omega)
  simp only [e212_954, e212_955, e212_956, e212_957, e212_958, e212_959, e212_960, e212_961, e212_962, e212_963, e212_964, e212_965, zpush_some, zpush_none, true_or, or_true, true_and, and_true, ↓reduceIte, zq_ite, zq_itel, zo_3, nI_1, nI_2, nI_3, nI_4, nI_5, z1, c1, z2, c2]
  refine zV_mono (zV_fix (p_parts (d := e + 4) h _ _)) (fun v1 I1 L1 q => ?_)
  obtain ⟨hM, hf1⟩ := q
  obtain ⟨x, rfl⟩ := same_of hM
  have f0 : ∀ j, I1 0 j = I 0 j := fun j => hf1 0 (by decide) j
  simp only [e212_968, e212_969, e212_970, e212_971, e212_972, e212_973, e212_974, e212_975, e212_976, e212_977, e212_978, e212_979, zpush_some, zpush_none, true_or, or_true, true_and, and_true, ↓reduceIte, zq_ite, zq_itel, zo_62, nI_1, nI_2, nI_3, nI_4, nI_5, z1, c1, z2, c2, f0]
  refine zV_mono (zV_fix hM) (fun v2 I2 L2 q => ?_)
  obtain ⟨⟨⟨y, e1, rfl⟩, hi⟩, hf2⟩ := q
  cases e1
  simp only [e212_982, e212_985, e212_986, zpush_some, zpush_none, true_or, or_true, true_and, and_true, ↓reduceIte, zq_ite, zq_itel]
  exact nx I2 L2 hi (fun k hk j => by rw [hf2 k hk j, hf1 k hk j])
theorem w_hurts (h : Inv I L) (h1 : ∀ j, j < 6 → I 1 j = zKL6 j) (h2 : ∀ j, j < 4 → I 2 j = zLE4 j) (hn : i + 6 ≤ n) (hn2 : n ≤ 3072) (nx : ∀ I2 L2, Inv I2 L2 → (∀ k, k < 3 → ∀ j, I2 k j = I k j) → zV n (e + 9) 212 1375 [.ref 0, .ref 3, .ref 62, .int (nI i)] [] I2 L2 Q) : zV n (e + 9) 212 987 [.ref 0, .ref 3, .ref 62, .int (nI i)] [] I L Q := by
  simp only [e212_987, e212_988, zpush_some, zpush_none, true_or, or_true, true_and, and_true, ↓reduceIte, zq_ite, zq_itel, zo_3]
  refine zV_mono (zV_fix (p_hurts (d := e + 2) h)) (fun v1 I1 L1 q => ?_)
  obtain ⟨hM, hf1⟩ := q
  obtain ⟨x, rfl⟩ := same_of hM
  simp only [e212_991, e212_992, zpush_some, zpush_none, true_or, or_true, true_and, and_true, ↓reduceIte, zq_ite, zq_itel, zo_62]
  refine zV_mono (zV_fix hM) (fun v2 I2 L2 q => ?_)
  obtain ⟨⟨⟨y, e1, rfl⟩, hi⟩, hf2⟩ := q
  cases e1
  simp only [e212_995, e212_998, e212_999, zpush_some, zpush_none, true_or, or_true, true_and, and_true, ↓reduceIte, zq_ite, zq_itel]
  exact nx I2 L2 hi (fun k hk j => by rw [hf2 k hk j, hf1 k hk j])
theorem w_goals (h : Inv I L) (h1 : ∀ j, j < 6 → I 1 j = zKL6 j) (h2 : ∀ j, j < 4 → I 2 j = zLE4 j) (hn : i + 6 ≤ n) (hn2 : n ≤ 3072) (nx : ∀ I2 L2, Inv I2 L2 → (∀ k, k < 3 → ∀ j, I2 k j = I k j) → zV n (e + 9) 212 1375 [.ref 0, .ref 3, .ref 62, .int (nI i)] [] I2 L2 Q) : zV n (e + 9) 212 1000 [.ref 0, .ref 3, .ref 62, .int (nI i)] [] I L Q := by
  have z1 : zin (nI (i + 1)) n = true := zin_ok (by omega) (by omega)
  have c1 : (nI (i + 1)).toNatClampNeg = i + 1 := nI_clamp (by omega)
  have z2 : zin (nI (i + 2)) n = true := zin_ok (by omega) (by omega)
  have c2 : (nI (i + 2)).toNatClampNeg = i + 2 := nI_clamp (by omega)
  simp only [e212_1000, e212_1001, e212_1002, e212_1003, e212_1004, e212_1005, e212_1006, e212_1007, e212_1008, e212_1009, e212_1010, e212_1011, zpush_some, zpush_none, true_or, or_true, true_and, and_true, ↓reduceIte, zq_ite, zq_itel, zo_3, nI_1, nI_2, nI_3, nI_4, nI_5, z1, c1, z2, c2]
  refine zV_mono (zV_fix (p_goals (d := e + 2) h _ _)) (fun v1 I1 L1 q => ?_)
  obtain ⟨hM, hf1⟩ := q
  obtain ⟨x, rfl⟩ := same_of hM
  have f0 : ∀ j, I1 0 j = I 0 j := fun j => hf1 0 (by decide) j
  simp only [e212_1014, e212_1015, e212_1016, e212_1017, e212_1018, e212_1019, e212_1020, e212_1021, e212_1022, e212_1023, e212_1024, e212_1025, zpush_some, zpush_none, true_or, or_true, true_and, and_true, ↓reduceIte, zq_ite, zq_itel, zo_62, nI_1, nI_2, nI_3, nI_4, nI_5, z1, c1, z2, c2, f0]
  refine zV_mono (zV_fix hM) (fun v2 I2 L2 q => ?_)
  obtain ⟨⟨⟨y, e1, rfl⟩, hi⟩, hf2⟩ := q
  cases e1
  simp only [e212_1028, e212_1031, e212_1032, zpush_some, zpush_none, true_or, or_true, true_and, and_true, ↓reduceIte, zq_ite, zq_itel]
  exact nx I2 L2 hi (fun k hk j => by rw [hf2 k hk j, hf1 k hk j])
theorem w_kinds (h : Inv I L) (h1 : ∀ j, j < 6 → I 1 j = zKL6 j) (h2 : ∀ j, j < 4 → I 2 j = zLE4 j) (hn : i + 6 ≤ n) (hn2 : n ≤ 3072) (nx : ∀ I2 L2, Inv I2 L2 → (∀ k, k < 3 → ∀ j, I2 k j = I k j) → zV n (e + 9) 212 1375 [.ref 0, .ref 3, .ref 62, .int (nI i)] [] I2 L2 Q) : zV n (e + 9) 212 1033 [.ref 0, .ref 3, .ref 62, .int (nI i)] [] I L Q := by
  have z1 : zin (nI (i + 1)) n = true := zin_ok (by omega) (by omega)
  have c1 : (nI (i + 1)).toNatClampNeg = i + 1 := nI_clamp (by omega)
  have z2 : zin (nI (i + 2)) n = true := zin_ok (by omega) (by omega)
  have c2 : (nI (i + 2)).toNatClampNeg = i + 2 := nI_clamp (by omega)
  simp only [e212_1033, e212_1034, e212_1035, e212_1036, e212_1037, e212_1038, e212_1039, e212_1040, e212_1041, e212_1042, e212_1043, e212_1044, zpush_some, zpush_none, true_or, or_true, true_and, and_true, ↓reduceIte, zq_ite, zq_itel, zo_3, nI_1, nI_2, nI_3, nI_4, nI_5, z1, c1, z2, c2]
  refine zV_mono (zV_fix (p_kinds (d := e + 1) h _ _)) (fun v1 I1 L1 q => ?_)
  obtain ⟨hM, hf1⟩ := q
  obtain ⟨x, rfl⟩ := same_of hM
  have f0 : ∀ j, I1 0 j = I 0 j := fun j => hf1 0 (by decide) j
  simp only [e212_1047, e212_1048, e212_1049, e212_1050, e212_1051, e212_1052, e212_1053, e212_1054, e212_1055, e212_1056, e212_1057, e212_1058, zpush_some, zpush_none, true_or, or_true, true_and, and_true, ↓reduceIte, zq_ite, zq_itel, zo_62, nI_1, nI_2, nI_3, nI_4, nI_5, z1, c1, z2, c2, f0]
  refine zV_mono (zV_fix hM) (fun v2 I2 L2 q => ?_)
  obtain ⟨⟨⟨y, e1, rfl⟩, hi⟩, hf2⟩ := q
  cases e1
  simp only [e212_1061, e212_1064, e212_1065, zpush_some, zpush_none, true_or, or_true, true_and, and_true, ↓reduceIte, zq_ite, zq_itel]
  exact nx I2 L2 hi (fun k hk j => by rw [hf2 k hk j, hf1 k hk j])
theorem w_test (h : Inv I L) (h1 : ∀ j, j < 6 → I 1 j = zKL6 j) (h2 : ∀ j, j < 4 → I 2 j = zLE4 j) (hn : i + 6 ≤ n) (hn2 : n ≤ 3072) (nx : ∀ I2 L2, Inv I2 L2 → (∀ k, k < 3 → ∀ j, I2 k j = I k j) → zV n (e + 9) 212 1375 [.ref 0, .ref 3, .ref 62, .int (nI i)] [] I2 L2 Q) : zV n (e + 9) 212 1066 [.ref 0, .ref 3, .ref 62, .int (nI i)] [] I L Q := by
  have z1 : zin (nI (i + 1)) n = true := zin_ok (by omega) (by omega)
  have c1 : (nI (i + 1)).toNatClampNeg = i + 1 := nI_clamp (by omega)
  have z2 : zin (nI (i + 2)) n = true := zin_ok (by omega) (by omega)
  have c2 : (nI (i + 2)).toNatClampNeg = i + 2 := nI_clamp (by omega)
  simp only [e212_1066, e212_1067, e212_1068, e212_1069, e212_1070, e212_1071, e212_1072, e212_1073, e212_1074, e212_1075, e212_1076, e212_1077, zpush_some, zpush_none, true_or, or_true, true_and, and_true, ↓reduceIte, zq_ite, zq_itel, zo_3, nI_1, nI_2, nI_3, nI_4, nI_5, z1, c1, z2, c2]
  refine zV_mono (zV_fix (p_test (d := e + 1) h _ _)) (fun v1 I1 L1 q => ?_)
  obtain ⟨hM, hf1⟩ := q
  obtain ⟨x, rfl⟩ := same_of hM
  have f0 : ∀ j, I1 0 j = I 0 j := fun j => hf1 0 (by decide) j
  simp only [e212_1080, e212_1081, e212_1082, e212_1083, e212_1084, e212_1085, e212_1086, e212_1087, e212_1088, e212_1089, e212_1090, e212_1091, zpush_some, zpush_none, true_or, or_true, true_and, and_true, ↓reduceIte, zq_ite, zq_itel, zo_62, nI_1, nI_2, nI_3, nI_4, nI_5, z1, c1, z2, c2, f0]
  refine zV_mono (zV_fix hM) (fun v2 I2 L2 q => ?_)
  obtain ⟨⟨⟨y, e1, rfl⟩, hi⟩, hf2⟩ := q
  cases e1
  simp only [e212_1094, e212_1097, e212_1098, zpush_some, zpush_none, true_or, or_true, true_and, and_true, ↓reduceIte, zq_ite, zq_itel]
  exact nx I2 L2 hi (fun k hk j => by rw [hf2 k hk j, hf1 k hk j])
theorem w_duel (h : Inv I L) (h1 : ∀ j, j < 6 → I 1 j = zKL6 j) (h2 : ∀ j, j < 4 → I 2 j = zLE4 j) (hn : i + 6 ≤ n) (hn2 : n ≤ 3072) (nx : ∀ I2 L2, Inv I2 L2 → (∀ k, k < 3 → ∀ j, I2 k j = I k j) → zV n (e + 9) 212 1375 [.ref 0, .ref 3, .ref 62, .int (nI i)] [] I2 L2 Q) : zV n (e + 9) 212 1099 [.ref 0, .ref 3, .ref 62, .int (nI i)] [] I L Q := by
  have z1 : zin (nI (i + 1)) n = true := zin_ok (by omega) (by omega)
  have c1 : (nI (i + 1)).toNatClampNeg = i + 1 := nI_clamp (by omega)
  have z2 : zin (nI (i + 2)) n = true := zin_ok (by omega) (by omega)
  have c2 : (nI (i + 2)).toNatClampNeg = i + 2 := nI_clamp (by omega)
  have z3 : zin (nI (i + 3)) n = true := zin_ok (by omega) (by omega)
  have c3 : (nI (i + 3)).toNatClampNeg = i + 3 := nI_clamp (by omega)
  simp only [e212_1099, e212_1100, e212_1101, e212_1102, e212_1103, e212_1104, e212_1105, e212_1106, e212_1107, e212_1108, e212_1109, e212_1110, e212_1111, e212_1112, e212_1113, e212_1114, e212_1115, zpush_some, zpush_none, true_or, or_true, true_and, and_true, ↓reduceIte, zq_ite, zq_itel, zo_3, nI_1, nI_2, nI_3, nI_4, nI_5, z1, c1, z2, c2, z3, c3]
  refine zV_mono (zV_fix (p_duel (d := e + 0) h h2 _ _ _)) (fun v1 I1 L1 q => ?_)
  obtain ⟨hM, hf1⟩ := q
  obtain ⟨x, rfl⟩ := same_of hM
  have f0 : ∀ j, I1 0 j = I 0 j := fun j => hf1 0 (by decide) j
  simp only [e212_1118, e212_1119, e212_1120, e212_1121, e212_1122, e212_1123, e212_1124, e212_1125, e212_1126, e212_1127, e212_1128, e212_1129, e212_1130, e212_1131, e212_1132, e212_1133, e212_1134, zpush_some, zpush_none, true_or, or_true, true_and, and_true, ↓reduceIte, zq_ite, zq_itel, zo_62, nI_1, nI_2, nI_3, nI_4, nI_5, z1, c1, z2, c2, z3, c3, f0]
  refine zV_mono (zV_fix hM) (fun v2 I2 L2 q => ?_)
  obtain ⟨⟨⟨y, e1, rfl⟩, hi⟩, hf2⟩ := q
  cases e1
  simp only [e212_1137, e212_1140, e212_1141, zpush_some, zpush_none, true_or, or_true, true_and, and_true, ↓reduceIte, zq_ite, zq_itel]
  exact nx I2 L2 hi (fun k hk j => by rw [hf2 k hk j, hf1 k hk j])
theorem w_odds (h : Inv I L) (h1 : ∀ j, j < 6 → I 1 j = zKL6 j) (h2 : ∀ j, j < 4 → I 2 j = zLE4 j) (hn : i + 6 ≤ n) (hn2 : n ≤ 3072) (nx : ∀ I2 L2, Inv I2 L2 → (∀ k, k < 3 → ∀ j, I2 k j = I k j) → zV n (e + 9) 212 1375 [.ref 0, .ref 3, .ref 62, .int (nI i)] [] I2 L2 Q) : zV n (e + 9) 212 1142 [.ref 0, .ref 3, .ref 62, .int (nI i)] [] I L Q := by
  have z1 : zin (nI (i + 1)) n = true := zin_ok (by omega) (by omega)
  have c1 : (nI (i + 1)).toNatClampNeg = i + 1 := nI_clamp (by omega)
  have z2 : zin (nI (i + 2)) n = true := zin_ok (by omega) (by omega)
  have c2 : (nI (i + 2)).toNatClampNeg = i + 2 := nI_clamp (by omega)
  have z3 : zin (nI (i + 3)) n = true := zin_ok (by omega) (by omega)
  have c3 : (nI (i + 3)).toNatClampNeg = i + 3 := nI_clamp (by omega)
  simp only [e212_1142, e212_1143, e212_1144, e212_1145, e212_1146, e212_1147, e212_1148, e212_1149, e212_1150, e212_1151, e212_1152, e212_1153, e212_1154, e212_1155, e212_1156, e212_1157, e212_1158, zpush_some, zpush_none, true_or, or_true, true_and, and_true, ↓reduceIte, zq_ite, zq_itel, zo_3, nI_1, nI_2, nI_3, nI_4, nI_5, z1, c1, z2, c2, z3, c3]
  refine zV_mono (zV_fix (p_odds (d := e + 5) h _ _ _)) (fun v1 I1 L1 q => ?_)
  obtain ⟨hM, hf1⟩ := q
  obtain ⟨x, rfl⟩ := same_of hM
  have f0 : ∀ j, I1 0 j = I 0 j := fun j => hf1 0 (by decide) j
  simp only [e212_1161, e212_1162, e212_1163, e212_1164, e212_1165, e212_1166, e212_1167, e212_1168, e212_1169, e212_1170, e212_1171, e212_1172, e212_1173, e212_1174, e212_1175, e212_1176, e212_1177, zpush_some, zpush_none, true_or, or_true, true_and, and_true, ↓reduceIte, zq_ite, zq_itel, zo_62, nI_1, nI_2, nI_3, nI_4, nI_5, z1, c1, z2, c2, z3, c3, f0]
  refine zV_mono (zV_fix hM) (fun v2 I2 L2 q => ?_)
  obtain ⟨⟨⟨y, e1, rfl⟩, hi⟩, hf2⟩ := q
  cases e1
  simp only [e212_1180, e212_1183, e212_1184, zpush_some, zpush_none, true_or, or_true, true_and, and_true, ↓reduceIte, zq_ite, zq_itel]
  exact nx I2 L2 hi (fun k hk j => by rw [hf2 k hk j, hf1 k hk j])
theorem w_mid (h : Inv I L) (h1 : ∀ j, j < 6 → I 1 j = zKL6 j) (h2 : ∀ j, j < 4 → I 2 j = zLE4 j) (hn : i + 6 ≤ n) (hn2 : n ≤ 3072) (nx : ∀ I2 L2, Inv I2 L2 → (∀ k, k < 3 → ∀ j, I2 k j = I k j) → zV n (e + 9) 212 1375 [.ref 0, .ref 3, .ref 62, .int (nI i)] [] I2 L2 Q) : zV n (e + 9) 212 1185 [.ref 0, .ref 3, .ref 62, .int (nI i)] [] I L Q := by
  have z1 : zin (nI (i + 1)) n = true := zin_ok (by omega) (by omega)
  have c1 : (nI (i + 1)).toNatClampNeg = i + 1 := nI_clamp (by omega)
  have z2 : zin (nI (i + 2)) n = true := zin_ok (by omega) (by omega)
  have c2 : (nI (i + 2)).toNatClampNeg = i + 2 := nI_clamp (by omega)
  have z3 : zin (nI (i + 3)) n = true := zin_ok (by omega) (by omega)
  have c3 : (nI (i + 3)).toNatClampNeg = i + 3 := nI_clamp (by omega)
  simp only [e212_1185, e212_1186, e212_1187, e212_1188, e212_1189, e212_1190, e212_1191, e212_1192, e212_1193, e212_1194, e212_1195, e212_1196, e212_1197, e212_1198, e212_1199, e212_1200, e212_1201, zpush_some, zpush_none, true_or, or_true, true_and, and_true, ↓reduceIte, zq_ite, zq_itel, zo_3, nI_1, nI_2, nI_3, nI_4, nI_5, z1, c1, z2, c2, z3, c3]
  refine zV_mono (zV_fix (p_mid (d := e + 5) h _ _ _)) (fun v1 I1 L1 q => ?_)
  obtain ⟨hM, hf1⟩ := q
  obtain ⟨x, rfl⟩ := same_of hM
  have f0 : ∀ j, I1 0 j = I 0 j := fun j => hf1 0 (by decide) j
  simp only [e212_1204, e212_1205, e212_1206, e212_1207, e212_1208, e212_1209, e212_1210, e212_1211, e212_1212, e212_1213, e212_1214, e212_1215, e212_1216, e212_1217, e212_1218, e212_1219, e212_1220, zpush_some, zpush_none, true_or, or_true, true_and, and_true, ↓reduceIte, zq_ite, zq_itel, zo_62, nI_1, nI_2, nI_3, nI_4, nI_5, z1, c1, z2, c2, z3, c3, f0]
  refine zV_mono (zV_fix hM) (fun v2 I2 L2 q => ?_)
  obtain ⟨⟨⟨y, e1, rfl⟩, hi⟩, hf2⟩ := q
  cases e1
  simp only [e212_1223, e212_1226, e212_1227, zpush_some, zpush_none, true_or, or_true, true_and, and_true, ↓reduceIte, zq_ite, zq_itel]
  exact nx I2 L2 hi (fun k hk j => by rw [hf2 k hk j, hf1 k hk j])
theorem w_lots (h : Inv I L) (h1 : ∀ j, j < 6 → I 1 j = zKL6 j) (h2 : ∀ j, j < 4 → I 2 j = zLE4 j) (hn : i + 6 ≤ n) (hn2 : n ≤ 3072) (nx : ∀ I2 L2, Inv I2 L2 → (∀ k, k < 3 → ∀ j, I2 k j = I k j) → zV n (e + 9) 212 1375 [.ref 0, .ref 3, .ref 62, .int (nI i)] [] I2 L2 Q) : zV n (e + 9) 212 1228 [.ref 0, .ref 3, .ref 62, .int (nI i)] [] I L Q := by
  have z1 : zin (nI (i + 1)) n = true := zin_ok (by omega) (by omega)
  have c1 : (nI (i + 1)).toNatClampNeg = i + 1 := nI_clamp (by omega)
  have z2 : zin (nI (i + 2)) n = true := zin_ok (by omega) (by omega)
  have c2 : (nI (i + 2)).toNatClampNeg = i + 2 := nI_clamp (by omega)
  simp only [e212_1228, e212_1229, e212_1230, e212_1231, e212_1232, e212_1233, e212_1234, e212_1235, e212_1236, e212_1237, e212_1238, e212_1239, zpush_some, zpush_none, true_or, or_true, true_and, and_true, ↓reduceIte, zq_ite, zq_itel, zo_3, nI_1, nI_2, nI_3, nI_4, nI_5, z1, c1, z2, c2]
  refine zV_mono (zV_fix (p_lots (d := e + 2) h _ _)) (fun v1 I1 L1 q => ?_)
  obtain ⟨hM, hf1⟩ := q
  obtain ⟨x, rfl⟩ := same_of hM
  have f0 : ∀ j, I1 0 j = I 0 j := fun j => hf1 0 (by decide) j
  simp only [e212_1242, e212_1243, e212_1244, e212_1245, e212_1246, e212_1247, e212_1248, e212_1249, e212_1250, e212_1251, e212_1252, e212_1253, zpush_some, zpush_none, true_or, or_true, true_and, and_true, ↓reduceIte, zq_ite, zq_itel, zo_62, nI_1, nI_2, nI_3, nI_4, nI_5, z1, c1, z2, c2, f0]
  refine zV_mono (zV_fix hM) (fun v2 I2 L2 q => ?_)
  obtain ⟨⟨⟨y, e1, rfl⟩, hi⟩, hf2⟩ := q
  cases e1
  simp only [e212_1256, e212_1259, e212_1260, zpush_some, zpush_none, true_or, or_true, true_and, and_true, ↓reduceIte, zq_ite, zq_itel]
  exact nx I2 L2 hi (fun k hk j => by rw [hf2 k hk j, hf1 k hk j])
theorem w_asked (h : Inv I L) (h1 : ∀ j, j < 6 → I 1 j = zKL6 j) (h2 : ∀ j, j < 4 → I 2 j = zLE4 j) (hn : i + 6 ≤ n) (hn2 : n ≤ 3072) (nx : ∀ I2 L2, Inv I2 L2 → (∀ k, k < 3 → ∀ j, I2 k j = I k j) → zV n (e + 9) 212 1375 [.ref 0, .ref 3, .ref 62, .int (nI i)] [] I2 L2 Q) : zV n (e + 9) 212 1261 [.ref 0, .ref 3, .ref 62, .int (nI i)] [] I L Q := by
  simp only [e212_1261, e212_1262, zpush_some, zpush_none, true_or, or_true, true_and, and_true, ↓reduceIte, zq_ite, zq_itel, zo_3]
  refine zV_mono (zV_fix (p_asked (d := e + 8) h)) (fun v1 I1 L1 q => ?_)
  obtain ⟨hM, hf1⟩ := q
  obtain ⟨x, rfl⟩ := same_of hM
  simp only [e212_1265, e212_1266, zpush_some, zpush_none, true_or, or_true, true_and, and_true, ↓reduceIte, zq_ite, zq_itel, zo_62]
  refine zV_mono (zV_fix hM) (fun v2 I2 L2 q => ?_)
  obtain ⟨⟨⟨y, e1, rfl⟩, hi⟩, hf2⟩ := q
  cases e1
  simp only [e212_1269, e212_1272, e212_1273, zpush_some, zpush_none, true_or, or_true, true_and, and_true, ↓reduceIte, zq_ite, zq_itel]
  exact nx I2 L2 hi (fun k hk j => by rw [hf2 k hk j, hf1 k hk j])
theorem w_upper (h : Inv I L) (h1 : ∀ j, j < 6 → I 1 j = zKL6 j) (h2 : ∀ j, j < 4 → I 2 j = zLE4 j) (hn : i + 6 ≤ n) (hn2 : n ≤ 3072) (nx : ∀ I2 L2, Inv I2 L2 → (∀ k, k < 3 → ∀ j, I2 k j = I k j) → zV n (e + 9) 212 1375 [.ref 0, .ref 3, .ref 62, .int (nI i)] [] I2 L2 Q) : zV n (e + 9) 212 1274 [.ref 0, .ref 3, .ref 62, .int (nI i)] [] I L Q := by
  simp only [e212_1274, e212_1275, zpush_some, zpush_none, true_or, or_true, true_and, and_true, ↓reduceIte, zq_ite, zq_itel, zo_3]
  refine zV_mono (zV_fix (p_upper (d := e + 8) h)) (fun v1 I1 L1 q => ?_)
  obtain ⟨hM, hf1⟩ := q
  obtain ⟨x, rfl⟩ := sameL_of hM
  simp only [e212_1278, e212_1279, zpush_some, zpush_none, true_or, or_true, true_and, and_true, ↓reduceIte, zq_ite, zq_itel, zo_62]
  refine zV_mono (zV_fix hM) (fun v2 I2 L2 q => ?_)
  obtain ⟨⟨⟨y, e1, rfl⟩, hi⟩, hf2⟩ := q
  cases e1
  simp only [e212_1282, e212_1283, e212_1286, e212_1287, zpush_some, zpush_none, true_or, or_true, true_and, and_true, ↓reduceIte, zq_ite, zq_itel, lg_0]
  exact nx I2 L2 hi (fun k hk j => by rw [hf2 k hk j, hf1 k hk j])
theorem w_lower (h : Inv I L) (h1 : ∀ j, j < 6 → I 1 j = zKL6 j) (h2 : ∀ j, j < 4 → I 2 j = zLE4 j) (hn : i + 6 ≤ n) (hn2 : n ≤ 3072) (nx : ∀ I2 L2, Inv I2 L2 → (∀ k, k < 3 → ∀ j, I2 k j = I k j) → zV n (e + 9) 212 1375 [.ref 0, .ref 3, .ref 62, .int (nI i)] [] I2 L2 Q) : zV n (e + 9) 212 1288 [.ref 0, .ref 3, .ref 62, .int (nI i)] [] I L Q := by
  simp only [e212_1288, e212_1289, zpush_some, zpush_none, true_or, or_true, true_and, and_true, ↓reduceIte, zq_ite, zq_itel, zo_3]
  refine zV_mono (zV_fix (p_lower (d := e + 8) h)) (fun v1 I1 L1 q => ?_)
  obtain ⟨hM, hf1⟩ := q
  obtain ⟨x, rfl⟩ := sameL_of hM
  simp only [e212_1292, e212_1293, zpush_some, zpush_none, true_or, or_true, true_and, and_true, ↓reduceIte, zq_ite, zq_itel, zo_62]
  refine zV_mono (zV_fix hM) (fun v2 I2 L2 q => ?_)
  obtain ⟨⟨⟨y, e1, rfl⟩, hi⟩, hf2⟩ := q
  cases e1
  simp only [e212_1296, e212_1297, e212_1300, e212_1301, zpush_some, zpush_none, true_or, or_true, true_and, and_true, ↓reduceIte, zq_ite, zq_itel, lg_0]
  exact nx I2 L2 hi (fun k hk j => by rw [hf2 k hk j, hf1 k hk j])
theorem w_count (h : Inv I L) (h1 : ∀ j, j < 6 → I 1 j = zKL6 j) (h2 : ∀ j, j < 4 → I 2 j = zLE4 j) (hn : i + 6 ≤ n) (hn2 : n ≤ 3072) (nx : ∀ I2 L2, Inv I2 L2 → (∀ k, k < 3 → ∀ j, I2 k j = I k j) → zV n (e + 9) 212 1375 [.ref 0, .ref 3, .ref 62, .int (nI i)] [] I2 L2 Q) : zV n (e + 9) 212 1302 [.ref 0, .ref 3, .ref 62, .int (nI i)] [] I L Q := by
  have z1 : zin (nI (i + 1)) n = true := zin_ok (by omega) (by omega)
  have c1 : (nI (i + 1)).toNatClampNeg = i + 1 := nI_clamp (by omega)
  simp only [e212_1302, e212_1303, e212_1304, e212_1305, e212_1306, e212_1307, e212_1308, zpush_some, zpush_none, true_or, or_true, true_and, and_true, ↓reduceIte, zq_ite, zq_itel, zo_3, nI_1, nI_2, nI_3, nI_4, nI_5, z1, c1]
  refine zV_mono (zV_fix (p_count (d := e + 4) h _)) (fun v1 I1 L1 q => ?_)
  obtain ⟨hM, hf1⟩ := q
  obtain ⟨x, rfl⟩ := same_of hM
  have f0 : ∀ j, I1 0 j = I 0 j := fun j => hf1 0 (by decide) j
  simp only [e212_1311, e212_1312, e212_1313, e212_1314, e212_1315, e212_1316, e212_1317, zpush_some, zpush_none, true_or, or_true, true_and, and_true, ↓reduceIte, zq_ite, zq_itel, zo_62, nI_1, nI_2, nI_3, nI_4, nI_5, z1, c1, f0]
  refine zV_mono (zV_fix hM) (fun v2 I2 L2 q => ?_)
  obtain ⟨⟨⟨y, e1, rfl⟩, hi⟩, hf2⟩ := q
  cases e1
  simp only [e212_1320, e212_1323, e212_1324, zpush_some, zpush_none, true_or, or_true, true_and, and_true, ↓reduceIte, zq_ite, zq_itel]
  exact nx I2 L2 hi (fun k hk j => by rw [hf2 k hk j, hf1 k hk j])
theorem w_finding (h : Inv I L) (h1 : ∀ j, j < 6 → I 1 j = zKL6 j) (h2 : ∀ j, j < 4 → I 2 j = zLE4 j) (hn : i + 6 ≤ n) (hn2 : n ≤ 3072) (nx : ∀ I2 L2, Inv I2 L2 → (∀ k, k < 3 → ∀ j, I2 k j = I k j) → zV n (e + 9) 212 1375 [.ref 0, .ref 3, .ref 62, .int (nI i)] [] I2 L2 Q) : zV n (e + 9) 212 1325 [.ref 0, .ref 3, .ref 62, .int (nI i)] [] I L Q := by
  simp only [e212_1325, e212_1326, zpush_some, zpush_none, true_or, or_true, true_and, and_true, ↓reduceIte, zq_ite, zq_itel, zo_3]
  refine zV_mono (zV_fix (p_finding (d := e + 8) h)) (fun v1 I1 L1 q => ?_)
  obtain ⟨hM, hf1⟩ := q
  obtain ⟨x, rfl⟩ := same_of hM
  simp only [e212_1329, e212_1330, zpush_some, zpush_none, true_or, or_true, true_and, and_true, ↓reduceIte, zq_ite, zq_itel, zo_62]
  refine zV_mono (zV_fix hM) (fun v2 I2 L2 q => ?_)
  obtain ⟨⟨⟨y, e1, rfl⟩, hi⟩, hf2⟩ := q
  cases e1
  simp only [e212_1333, e212_1336, e212_1337, zpush_some, zpush_none, true_or, or_true, true_and, and_true, ↓reduceIte, zq_ite, zq_itel]
  exact nx I2 L2 hi (fun k hk j => by rw [hf2 k hk j, hf1 k hk j])
theorem w_findings (h : Inv I L) (h1 : ∀ j, j < 6 → I 1 j = zKL6 j) (h2 : ∀ j, j < 4 → I 2 j = zLE4 j) (hn : i + 6 ≤ n) (hn2 : n ≤ 3072) (nx : ∀ I2 L2, Inv I2 L2 → (∀ k, k < 3 → ∀ j, I2 k j = I k j) → zV n (e + 9) 212 1375 [.ref 0, .ref 3, .ref 62, .int (nI i)] [] I2 L2 Q) : zV n (e + 9) 212 1338 [.ref 0, .ref 3, .ref 62, .int (nI i)] [] I L Q := by
  have z1 : zin (nI (i + 1)) n = true := zin_ok (by omega) (by omega)
  have c1 : (nI (i + 1)).toNatClampNeg = i + 1 := nI_clamp (by omega)
  simp only [e212_1338, e212_1339, e212_1340, e212_1341, e212_1342, e212_1343, e212_1344, zpush_some, zpush_none, true_or, or_true, true_and, and_true, ↓reduceIte, zq_ite, zq_itel, zo_3, nI_1, nI_2, nI_3, nI_4, nI_5, z1, c1]
  refine zV_mono (zV_fix (p_findings (d := e + 7) h _)) (fun v1 I1 L1 q => ?_)
  obtain ⟨hM, hf1⟩ := q
  obtain ⟨x, rfl⟩ := same_of hM
  have f0 : ∀ j, I1 0 j = I 0 j := fun j => hf1 0 (by decide) j
  simp only [e212_1347, e212_1348, e212_1349, e212_1350, e212_1351, e212_1352, e212_1353, zpush_some, zpush_none, true_or, or_true, true_and, and_true, ↓reduceIte, zq_ite, zq_itel, zo_62, nI_1, nI_2, nI_3, nI_4, nI_5, z1, c1, f0]
  refine zV_mono (zV_fix hM) (fun v2 I2 L2 q => ?_)
  obtain ⟨⟨⟨y, e1, rfl⟩, hi⟩, hf2⟩ := q
  cases e1
  simp only [e212_1356, e212_1359, e212_1360, zpush_some, zpush_none, true_or, or_true, true_and, and_true, ↓reduceIte, zq_ite, zq_itel]
  exact nx I2 L2 hi (fun k hk j => by rw [hf2 k hk j, hf1 k hk j])
theorem w_digest (h : Inv I L) (h1 : ∀ j, j < 6 → I 1 j = zKL6 j) (h2 : ∀ j, j < 4 → I 2 j = zLE4 j) (hn : i + 6 ≤ n) (hn2 : n ≤ 3072) (nx : ∀ I2 L2, Inv I2 L2 → (∀ k, k < 3 → ∀ j, I2 k j = I k j) → zV n (e + 9) 212 1375 [.ref 0, .ref 3, .ref 62, .int (nI i)] [] I2 L2 Q) : zV n (e + 9) 212 1361 [.ref 0, .ref 3, .ref 62, .int (nI i)] [] I L Q := by
  simp only [e212_1361, e212_1362, zpush_some, zpush_none, true_or, or_true, true_and, and_true, ↓reduceIte, zq_ite, zq_itel, zo_3]
  refine zV_mono (zV_fix (p_digest (d := e + 3) h)) (fun v1 I1 L1 q => ?_)
  obtain ⟨hM, hf1⟩ := q
  obtain ⟨x, rfl⟩ := sameL_of hM
  simp only [e212_1365, e212_1366, zpush_some, zpush_none, true_or, or_true, true_and, and_true, ↓reduceIte, zq_ite, zq_itel, zo_62]
  refine zV_mono (zV_fix hM) (fun v2 I2 L2 q => ?_)
  obtain ⟨⟨⟨y, e1, rfl⟩, hi⟩, hf2⟩ := q
  cases e1
  simp only [e212_1369, e212_1370, e212_1373, e212_1374, zpush_some, zpush_none, true_or, or_true, true_and, and_true, ↓reduceIte, zq_ite, zq_itel, lg_0]
  exact nx I2 L2 hi (fun k hk j => by rw [hf2 k hk j, hf1 k hk j])
end
