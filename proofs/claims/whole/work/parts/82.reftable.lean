/-! THE REFERENCE BY THE NUMBERS OF ITS METHODS. -/
abbrev rFn : Type := rE → List Value → rS → Option rA
def rT_0 (w : Nat) : List (Nat × rFn) := [(286, fun E As s => g286 E w As s), (287, fun E As s => g287 E w As s), (289, fun E As s => g289 E w As s), (290, fun E As s => g290 E w As s), (291, fun E As s => g291 E w As s), (292, fun E As s => g292 E w As s), (293, fun E As s => g293 E w As s), (294, fun E As s => g294 E w As s), (295, fun E As s => g295 E w As s), (296, fun E As s => g296 E w As s), (297, fun E As s => g297 E w As s), (298, fun E As s => g298 E w As s), (299, fun E As s => g299 E w As s), (300, fun E As s => g300 E w As s), (301, fun E As s => g301 E w As s), (302, fun E As s => g302 E w As s), (303, fun E As s => g303 E w As s), (304, fun E As s => g304 E w As s), (305, fun E As s => g305 E w As s), (306, fun E As s => g306 E w As s), (307, fun E As s => g307 E w As s), (308, fun E As s => g308 E w As s), (309, fun E As s => g309 E w As s), (310, fun E As s => g310 E w As s), (311, fun E As s => g311 E w As s), (312, fun E As s => g312 E w As s)]
theorem rTo_0 {L : Nat} {xs : Nat → Int32} {zf : Value} {E : rE} {w k : Nat} (hD : rO (dM L xs zf w k) E L xs) : ∀ p ∈ rT_0 w, ∀ (As : List Value) (h : rm_H) (s : rS) (r : rA), RS h s → p.2 E As s = some r → rx (dM L xs zf w (k + 1) p.1 As h) h r := by
  unfold rT_0
  refine List.forall_mem_cons.mpr ⟨fun As h s r hR z => (by rw [e286]; exact t286 hD As h s r hR z), ?_⟩
  refine List.forall_mem_cons.mpr ⟨fun As h s r hR z => (by rw [e287]; exact t287 hD As h s r hR z), ?_⟩
  refine List.forall_mem_cons.mpr ⟨fun As h s r hR z => (by rw [e289]; exact t289 hD As h s r hR z), ?_⟩
  refine List.forall_mem_cons.mpr ⟨fun As h s r hR z => (by rw [e290]; exact t290 hD As h s r hR z), ?_⟩
  refine List.forall_mem_cons.mpr ⟨fun As h s r hR z => (by rw [e291]; exact t291 hD As h s r hR z), ?_⟩
  refine List.forall_mem_cons.mpr ⟨fun As h s r hR z => (by rw [e292]; exact t292 hD As h s r hR z), ?_⟩
  refine List.forall_mem_cons.mpr ⟨fun As h s r hR z => (by rw [e293]; exact t293 hD As h s r hR z), ?_⟩
  refine List.forall_mem_cons.mpr ⟨fun As h s r hR z => (by rw [e294]; exact t294 hD As h s r hR z), ?_⟩
  refine List.forall_mem_cons.mpr ⟨fun As h s r hR z => (by rw [e295]; exact t295 hD As h s r hR z), ?_⟩
  refine List.forall_mem_cons.mpr ⟨fun As h s r hR z => (by rw [e296]; exact t296 hD As h s r hR z), ?_⟩
  refine List.forall_mem_cons.mpr ⟨fun As h s r hR z => (by rw [e297]; exact t297 hD As h s r hR z), ?_⟩
  refine List.forall_mem_cons.mpr ⟨fun As h s r hR z => (by rw [e298]; exact t298 hD As h s r hR z), ?_⟩
  refine List.forall_mem_cons.mpr ⟨fun As h s r hR z => (by rw [e299]; exact t299 hD As h s r hR z), ?_⟩
  refine List.forall_mem_cons.mpr ⟨fun As h s r hR z => (by rw [e300]; exact t300 hD As h s r hR z), ?_⟩
  refine List.forall_mem_cons.mpr ⟨fun As h s r hR z => (by rw [e301]; exact t301 hD As h s r hR z), ?_⟩
  refine List.forall_mem_cons.mpr ⟨fun As h s r hR z => (by rw [e302]; exact t302 hD As h s r hR z), ?_⟩
  refine List.forall_mem_cons.mpr ⟨fun As h s r hR z => (by rw [e303]; exact t303 hD As h s r hR z), ?_⟩
  refine List.forall_mem_cons.mpr ⟨fun As h s r hR z => (by rw [e304]; exact t304 hD As h s r hR z), ?_⟩
  refine List.forall_mem_cons.mpr ⟨fun As h s r hR z => (by rw [e305]; exact t305 hD As h s r hR z), ?_⟩
  refine List.forall_mem_cons.mpr ⟨fun As h s r hR z => (by rw [e306]; exact t306 hD As h s r hR z), ?_⟩
  refine List.forall_mem_cons.mpr ⟨fun As h s r hR z => (by rw [e307]; exact t307 hD As h s r hR z), ?_⟩
  refine List.forall_mem_cons.mpr ⟨fun As h s r hR z => (by rw [e308]; exact t308 hD As h s r hR z), ?_⟩
  refine List.forall_mem_cons.mpr ⟨fun As h s r hR z => (by rw [e309]; exact t309 hD As h s r hR z), ?_⟩
  refine List.forall_mem_cons.mpr ⟨fun As h s r hR z => (by rw [e310]; exact t310 hD As h s r hR z), ?_⟩
  refine List.forall_mem_cons.mpr ⟨fun As h s r hR z => (by rw [e311]; exact t311 hD As h s r hR z), ?_⟩
  refine List.forall_mem_cons.mpr ⟨fun As h s r hR z => (by rw [e312]; exact t312 hD As h s r hR z), ?_⟩
  exact fun _ z => by cases z
def rT_1 (w : Nat) : List (Nat × rFn) := [(313, fun E As s => g313 E w As s), (314, fun E As s => g314 E w As s), (315, fun E As s => g315 E w As s), (316, fun E As s => g316 E w As s), (317, fun E As s => g317 E w As s), (318, fun E As s => g318 E w As s), (319, fun E As s => g319 E w As s), (320, fun E As s => g320 E w As s), (321, fun E As s => g321 E w As s), (322, fun E As s => g322 E w As s), (323, fun E As s => g323 E w As s), (324, fun E As s => g324 E w As s), (325, fun E As s => g325 E w As s), (326, fun E As s => g326 E w As s), (327, fun E As s => g327 E w As s), (328, fun E As s => g328 E w As s), (329, fun E As s => g329 E w As s), (330, fun E As s => g330 E w As s), (331, fun E As s => g331 E w As s), (332, fun E As s => g332 E w As s), (333, fun E As s => g333 E w As s), (334, fun E As s => g334 E w As s), (335, fun E As s => g335 E w As s), (336, fun E As s => g336 E w As s), (337, fun E As s => g337 E w As s), (338, fun E As s => g338 E w As s)]
theorem rTo_1 {L : Nat} {xs : Nat → Int32} {zf : Value} {E : rE} {w k : Nat} (hD : rO (dM L xs zf w k) E L xs) : ∀ p ∈ rT_1 w, ∀ (As : List Value) (h : rm_H) (s : rS) (r : rA), RS h s → p.2 E As s = some r → rx (dM L xs zf w (k + 1) p.1 As h) h r := by
  unfold rT_1
  refine List.forall_mem_cons.mpr ⟨fun As h s r hR z => (by rw [e313]; exact t313 hD As h s r hR z), ?_⟩
  refine List.forall_mem_cons.mpr ⟨fun As h s r hR z => (by rw [e314]; exact t314 hD As h s r hR z), ?_⟩
  refine List.forall_mem_cons.mpr ⟨fun As h s r hR z => (by rw [e315]; exact t315 hD As h s r hR z), ?_⟩
  refine List.forall_mem_cons.mpr ⟨fun As h s r hR z => (by rw [e316]; exact t316 hD As h s r hR z), ?_⟩
  refine List.forall_mem_cons.mpr ⟨fun As h s r hR z => (by rw [e317]; exact t317 hD As h s r hR z), ?_⟩
  refine List.forall_mem_cons.mpr ⟨fun As h s r hR z => (by rw [e318]; exact t318 hD As h s r hR z), ?_⟩
  refine List.forall_mem_cons.mpr ⟨fun As h s r hR z => (by rw [e319]; exact t319 hD As h s r hR z), ?_⟩
  refine List.forall_mem_cons.mpr ⟨fun As h s r hR z => (by rw [e320]; exact t320 hD As h s r hR z), ?_⟩
  refine List.forall_mem_cons.mpr ⟨fun As h s r hR z => (by rw [e321]; exact t321 hD As h s r hR z), ?_⟩
  refine List.forall_mem_cons.mpr ⟨fun As h s r hR z => (by rw [e322]; exact t322 hD As h s r hR z), ?_⟩
  refine List.forall_mem_cons.mpr ⟨fun As h s r hR z => (by rw [e323]; exact t323 hD As h s r hR z), ?_⟩
  refine List.forall_mem_cons.mpr ⟨fun As h s r hR z => (by rw [e324]; exact t324 hD As h s r hR z), ?_⟩
  refine List.forall_mem_cons.mpr ⟨fun As h s r hR z => (by rw [e325]; exact t325 hD As h s r hR z), ?_⟩
  refine List.forall_mem_cons.mpr ⟨fun As h s r hR z => (by rw [e326]; exact t326 hD As h s r hR z), ?_⟩
  refine List.forall_mem_cons.mpr ⟨fun As h s r hR z => (by rw [e327]; exact t327 hD As h s r hR z), ?_⟩
  refine List.forall_mem_cons.mpr ⟨fun As h s r hR z => (by rw [e328]; exact t328 hD As h s r hR z), ?_⟩
  refine List.forall_mem_cons.mpr ⟨fun As h s r hR z => (by rw [e329]; exact t329 hD As h s r hR z), ?_⟩
  refine List.forall_mem_cons.mpr ⟨fun As h s r hR z => (by rw [e330]; exact t330 hD As h s r hR z), ?_⟩
  refine List.forall_mem_cons.mpr ⟨fun As h s r hR z => (by rw [e331]; exact t331 hD As h s r hR z), ?_⟩
  refine List.forall_mem_cons.mpr ⟨fun As h s r hR z => (by rw [e332]; exact t332 hD As h s r hR z), ?_⟩
  refine List.forall_mem_cons.mpr ⟨fun As h s r hR z => (by rw [e333]; exact t333 hD As h s r hR z), ?_⟩
  refine List.forall_mem_cons.mpr ⟨fun As h s r hR z => (by rw [e334]; exact t334 hD As h s r hR z), ?_⟩
  refine List.forall_mem_cons.mpr ⟨fun As h s r hR z => (by rw [e335]; exact t335 hD As h s r hR z), ?_⟩
  refine List.forall_mem_cons.mpr ⟨fun As h s r hR z => (by rw [e336]; exact t336 hD As h s r hR z), ?_⟩
  refine List.forall_mem_cons.mpr ⟨fun As h s r hR z => (by rw [e337]; exact t337 hD As h s r hR z), ?_⟩
  refine List.forall_mem_cons.mpr ⟨fun As h s r hR z => (by rw [e338]; exact t338 hD As h s r hR z), ?_⟩
  exact fun _ z => by cases z
def rT_2 (w : Nat) : List (Nat × rFn) := [(339, fun E As s => g339 E w As s), (340, fun E As s => g340 E w As s), (341, fun E As s => g341 E w As s), (342, fun E As s => g342 E w As s), (343, fun E As s => g343 E w As s), (344, fun E As s => g344 E w As s), (345, fun E As s => g345 E w As s), (346, fun E As s => g346 E w As s), (347, fun E As s => g347 E w As s), (348, fun E As s => g348 E w As s), (349, fun E As s => g349 E w As s), (350, fun E As s => g350 E w As s), (351, fun E As s => g351 E w As s), (352, fun E As s => g352 E w As s), (353, fun E As s => g353 E w As s), (354, fun E As s => g354 E w As s), (355, fun E As s => g355 E w As s), (356, fun E As s => g356 E w As s), (357, fun E As s => g357 E w As s), (358, fun E As s => g358 E w As s), (359, fun E As s => g359 E w As s), (360, fun E As s => g360 E w As s), (361, fun E As s => g361 E w As s), (362, fun E As s => g362 E w As s), (363, fun E As s => g363 E w As s), (364, fun E As s => g364 E w As s)]
theorem rTo_2 {L : Nat} {xs : Nat → Int32} {zf : Value} {E : rE} {w k : Nat} (hD : rO (dM L xs zf w k) E L xs) : ∀ p ∈ rT_2 w, ∀ (As : List Value) (h : rm_H) (s : rS) (r : rA), RS h s → p.2 E As s = some r → rx (dM L xs zf w (k + 1) p.1 As h) h r := by
  unfold rT_2
  refine List.forall_mem_cons.mpr ⟨fun As h s r hR z => (by rw [e339]; exact t339 hD As h s r hR z), ?_⟩
  refine List.forall_mem_cons.mpr ⟨fun As h s r hR z => (by rw [e340]; exact t340 hD As h s r hR z), ?_⟩
  refine List.forall_mem_cons.mpr ⟨fun As h s r hR z => (by rw [e341]; exact t341 hD As h s r hR z), ?_⟩
  refine List.forall_mem_cons.mpr ⟨fun As h s r hR z => (by rw [e342]; exact t342 hD As h s r hR z), ?_⟩
  refine List.forall_mem_cons.mpr ⟨fun As h s r hR z => (by rw [e343]; exact t343 hD As h s r hR z), ?_⟩
  refine List.forall_mem_cons.mpr ⟨fun As h s r hR z => (by rw [e344]; exact t344 hD As h s r hR z), ?_⟩
  refine List.forall_mem_cons.mpr ⟨fun As h s r hR z => (by rw [e345]; exact t345 hD As h s r hR z), ?_⟩
  refine List.forall_mem_cons.mpr ⟨fun As h s r hR z => (by rw [e346]; exact t346 hD As h s r hR z), ?_⟩
  refine List.forall_mem_cons.mpr ⟨fun As h s r hR z => (by rw [e347]; exact t347 hD As h s r hR z), ?_⟩
  refine List.forall_mem_cons.mpr ⟨fun As h s r hR z => (by rw [e348]; exact t348 hD As h s r hR z), ?_⟩
  refine List.forall_mem_cons.mpr ⟨fun As h s r hR z => (by rw [e349]; exact t349 hD As h s r hR z), ?_⟩
  refine List.forall_mem_cons.mpr ⟨fun As h s r hR z => (by rw [e350]; exact t350 hD As h s r hR z), ?_⟩
  refine List.forall_mem_cons.mpr ⟨fun As h s r hR z => (by rw [e351]; exact t351 hD As h s r hR z), ?_⟩
  refine List.forall_mem_cons.mpr ⟨fun As h s r hR z => (by rw [e352]; exact t352 hD As h s r hR z), ?_⟩
  refine List.forall_mem_cons.mpr ⟨fun As h s r hR z => (by rw [e353]; exact t353 hD As h s r hR z), ?_⟩
  refine List.forall_mem_cons.mpr ⟨fun As h s r hR z => (by rw [e354]; exact t354 hD As h s r hR z), ?_⟩
  refine List.forall_mem_cons.mpr ⟨fun As h s r hR z => (by rw [e355]; exact t355 hD As h s r hR z), ?_⟩
  refine List.forall_mem_cons.mpr ⟨fun As h s r hR z => (by rw [e356]; exact t356 hD As h s r hR z), ?_⟩
  refine List.forall_mem_cons.mpr ⟨fun As h s r hR z => (by rw [e357]; exact t357 hD As h s r hR z), ?_⟩
  refine List.forall_mem_cons.mpr ⟨fun As h s r hR z => (by rw [e358]; exact t358 hD As h s r hR z), ?_⟩
  refine List.forall_mem_cons.mpr ⟨fun As h s r hR z => (by rw [e359]; exact t359 hD As h s r hR z), ?_⟩
  refine List.forall_mem_cons.mpr ⟨fun As h s r hR z => (by rw [e360]; exact t360 hD As h s r hR z), ?_⟩
  refine List.forall_mem_cons.mpr ⟨fun As h s r hR z => (by rw [e361]; exact t361 hD As h s r hR z), ?_⟩
  refine List.forall_mem_cons.mpr ⟨fun As h s r hR z => (by rw [e362]; exact t362 hD As h s r hR z), ?_⟩
  refine List.forall_mem_cons.mpr ⟨fun As h s r hR z => (by rw [e363]; exact t363 hD As h s r hR z), ?_⟩
  refine List.forall_mem_cons.mpr ⟨fun As h s r hR z => (by rw [e364]; exact t364 hD As h s r hR z), ?_⟩
  exact fun _ z => by cases z
def rT_3 (w : Nat) : List (Nat × rFn) := [(365, fun E As s => g365 E w As s), (366, fun E As s => g366 E w As s), (367, fun E As s => g367 E w As s), (368, fun E As s => g368 E w As s), (369, fun E As s => g369 E w As s), (370, fun E As s => g370 E w As s), (371, fun E As s => g371 E w As s), (372, fun E As s => g372 E w As s), (373, fun E As s => g373 E w As s), (374, fun E As s => g374 E w As s), (375, fun E As s => g375 E w As s), (376, fun E As s => g376 E w As s), (377, fun E As s => g377 E w As s), (378, fun E As s => g378 E w As s), (379, fun E As s => g379 E w As s), (380, fun E As s => g380 E w As s), (381, fun E As s => g381 E w As s), (382, fun E As s => g382 E w As s), (383, fun E As s => g383 E w As s), (384, fun E As s => g384 E w As s), (385, fun E As s => g385 E w As s), (386, fun E As s => g386 E w As s), (387, fun E As s => g387 E w As s), (388, fun E As s => g388 E w As s), (389, fun E As s => g389 E w As s), (390, fun E As s => g390 E w As s)]
theorem rTo_3 {L : Nat} {xs : Nat → Int32} {zf : Value} {E : rE} {w k : Nat} (hD : rO (dM L xs zf w k) E L xs) : ∀ p ∈ rT_3 w, ∀ (As : List Value) (h : rm_H) (s : rS) (r : rA), RS h s → p.2 E As s = some r → rx (dM L xs zf w (k + 1) p.1 As h) h r := by
  unfold rT_3
  refine List.forall_mem_cons.mpr ⟨fun As h s r hR z => (by rw [e365]; exact t365 hD As h s r hR z), ?_⟩
  refine List.forall_mem_cons.mpr ⟨fun As h s r hR z => (by rw [e366]; exact t366 hD As h s r hR z), ?_⟩
  refine List.forall_mem_cons.mpr ⟨fun As h s r hR z => (by rw [e367]; exact t367 hD As h s r hR z), ?_⟩
  refine List.forall_mem_cons.mpr ⟨fun As h s r hR z => (by rw [e368]; exact t368 hD As h s r hR z), ?_⟩
  refine List.forall_mem_cons.mpr ⟨fun As h s r hR z => (by rw [e369]; exact t369 hD As h s r hR z), ?_⟩
  refine List.forall_mem_cons.mpr ⟨fun As h s r hR z => (by rw [e370]; exact t370 hD As h s r hR z), ?_⟩
  refine List.forall_mem_cons.mpr ⟨fun As h s r hR z => (by rw [e371]; exact t371 hD As h s r hR z), ?_⟩
  refine List.forall_mem_cons.mpr ⟨fun As h s r hR z => (by rw [e372]; exact t372 hD As h s r hR z), ?_⟩
  refine List.forall_mem_cons.mpr ⟨fun As h s r hR z => (by rw [e373]; exact t373 hD As h s r hR z), ?_⟩
  refine List.forall_mem_cons.mpr ⟨fun As h s r hR z => (by rw [e374]; exact t374 hD As h s r hR z), ?_⟩
  refine List.forall_mem_cons.mpr ⟨fun As h s r hR z => (by rw [e375]; exact t375 hD As h s r hR z), ?_⟩
  refine List.forall_mem_cons.mpr ⟨fun As h s r hR z => (by rw [e376]; exact t376 hD As h s r hR z), ?_⟩
  refine List.forall_mem_cons.mpr ⟨fun As h s r hR z => (by rw [e377]; exact t377 hD As h s r hR z), ?_⟩
  refine List.forall_mem_cons.mpr ⟨fun As h s r hR z => (by rw [e378]; exact t378 hD As h s r hR z), ?_⟩
  refine List.forall_mem_cons.mpr ⟨fun As h s r hR z => (by rw [e379]; exact t379 hD As h s r hR z), ?_⟩
  refine List.forall_mem_cons.mpr ⟨fun As h s r hR z => (by rw [e380]; exact t380 hD As h s r hR z), ?_⟩
  refine List.forall_mem_cons.mpr ⟨fun As h s r hR z => (by rw [e381]; exact t381 hD As h s r hR z), ?_⟩
  refine List.forall_mem_cons.mpr ⟨fun As h s r hR z => (by rw [e382]; exact t382 hD As h s r hR z), ?_⟩
  refine List.forall_mem_cons.mpr ⟨fun As h s r hR z => (by rw [e383]; exact t383 hD As h s r hR z), ?_⟩
  refine List.forall_mem_cons.mpr ⟨fun As h s r hR z => (by rw [e384]; exact t384 hD As h s r hR z), ?_⟩
  refine List.forall_mem_cons.mpr ⟨fun As h s r hR z => (by rw [e385]; exact t385 hD As h s r hR z), ?_⟩
  refine List.forall_mem_cons.mpr ⟨fun As h s r hR z => (by rw [e386]; exact t386 hD As h s r hR z), ?_⟩
  refine List.forall_mem_cons.mpr ⟨fun As h s r hR z => (by rw [e387]; exact t387 hD As h s r hR z), ?_⟩
  refine List.forall_mem_cons.mpr ⟨fun As h s r hR z => (by rw [e388]; exact t388 hD As h s r hR z), ?_⟩
  refine List.forall_mem_cons.mpr ⟨fun As h s r hR z => (by rw [e389]; exact t389 hD As h s r hR z), ?_⟩
  refine List.forall_mem_cons.mpr ⟨fun As h s r hR z => (by rw [e390]; exact t390 hD As h s r hR z), ?_⟩
  exact fun _ z => by cases z
def rT_4 (w : Nat) : List (Nat × rFn) := [(391, fun E As s => g391 E w As s), (392, fun E As s => g392 E w As s), (393, fun E As s => g393 E w As s), (394, fun E As s => g394 E w As s), (395, fun E As s => g395 E w As s), (396, fun E As s => g396 E w As s), (397, fun E As s => g397 E w As s), (398, fun E As s => g398 E w As s), (399, fun E As s => g399 E w As s), (400, fun E As s => g400 E w As s), (401, fun E As s => g401 E w As s), (402, fun E As s => g402 E w As s), (403, fun E As s => g403 E w As s), (404, fun E As s => g404 E w As s), (405, fun E As s => g405 E w As s), (406, fun E As s => g406 E w As s), (407, fun E As s => g407 E w As s), (408, fun E As s => g408 E w As s), (409, fun E As s => g409 E w As s), (410, fun E As s => g410 E w As s), (411, fun E As s => g411 E w As s), (412, fun E As s => g412 E w As s), (413, fun E As s => g413 E w As s)]
theorem rTo_4 {L : Nat} {xs : Nat → Int32} {zf : Value} {E : rE} {w k : Nat} (hD : rO (dM L xs zf w k) E L xs) : ∀ p ∈ rT_4 w, ∀ (As : List Value) (h : rm_H) (s : rS) (r : rA), RS h s → p.2 E As s = some r → rx (dM L xs zf w (k + 1) p.1 As h) h r := by
  unfold rT_4
  refine List.forall_mem_cons.mpr ⟨fun As h s r hR z => (by rw [e391]; exact t391 hD As h s r hR z), ?_⟩
  refine List.forall_mem_cons.mpr ⟨fun As h s r hR z => (by rw [e392]; exact t392 hD As h s r hR z), ?_⟩
  refine List.forall_mem_cons.mpr ⟨fun As h s r hR z => (by rw [e393]; exact t393 hD As h s r hR z), ?_⟩
  refine List.forall_mem_cons.mpr ⟨fun As h s r hR z => (by rw [e394]; exact t394 hD As h s r hR z), ?_⟩
  refine List.forall_mem_cons.mpr ⟨fun As h s r hR z => (by rw [e395]; exact t395 hD As h s r hR z), ?_⟩
  refine List.forall_mem_cons.mpr ⟨fun As h s r hR z => (by rw [e396]; exact t396 hD As h s r hR z), ?_⟩
  refine List.forall_mem_cons.mpr ⟨fun As h s r hR z => (by rw [e397]; exact t397 hD As h s r hR z), ?_⟩
  refine List.forall_mem_cons.mpr ⟨fun As h s r hR z => (by rw [e398]; exact t398 hD As h s r hR z), ?_⟩
  refine List.forall_mem_cons.mpr ⟨fun As h s r hR z => (by rw [e399]; exact t399 hD As h s r hR z), ?_⟩
  refine List.forall_mem_cons.mpr ⟨fun As h s r hR z => (by rw [e400]; exact t400 hD As h s r hR z), ?_⟩
  refine List.forall_mem_cons.mpr ⟨fun As h s r hR z => (by rw [e401]; exact t401 hD As h s r hR z), ?_⟩
  refine List.forall_mem_cons.mpr ⟨fun As h s r hR z => (by rw [e402]; exact t402 hD As h s r hR z), ?_⟩
  refine List.forall_mem_cons.mpr ⟨fun As h s r hR z => (by rw [e403]; exact t403 hD As h s r hR z), ?_⟩
  refine List.forall_mem_cons.mpr ⟨fun As h s r hR z => (by rw [e404]; exact t404 hD As h s r hR z), ?_⟩
  refine List.forall_mem_cons.mpr ⟨fun As h s r hR z => (by rw [e405]; exact t405 hD As h s r hR z), ?_⟩
  refine List.forall_mem_cons.mpr ⟨fun As h s r hR z => (by rw [e406]; exact t406 hD As h s r hR z), ?_⟩
  refine List.forall_mem_cons.mpr ⟨fun As h s r hR z => (by rw [e407]; exact t407 hD As h s r hR z), ?_⟩
  refine List.forall_mem_cons.mpr ⟨fun As h s r hR z => (by rw [e408]; exact t408 hD As h s r hR z), ?_⟩
  refine List.forall_mem_cons.mpr ⟨fun As h s r hR z => (by rw [e409]; exact t409 hD As h s r hR z), ?_⟩
  refine List.forall_mem_cons.mpr ⟨fun As h s r hR z => (by rw [e410]; exact t410 hD As h s r hR z), ?_⟩
  refine List.forall_mem_cons.mpr ⟨fun As h s r hR z => (by rw [e411]; exact t411 hD As h s r hR z), ?_⟩
  refine List.forall_mem_cons.mpr ⟨fun As h s r hR z => (by rw [e412]; exact t412 hD As h s r hR z), ?_⟩
  refine List.forall_mem_cons.mpr ⟨fun As h s r hR z => (by rw [e413]; exact t413 hD As h s r hR z), ?_⟩
  exact fun _ z => by cases z
def rT (w : Nat) : List (Nat × rFn) := rT_0 w ++ (rT_1 w ++ (rT_2 w ++ (rT_3 w ++ (rT_4 w))))
theorem rT_o {L : Nat} {xs : Nat → Int32} {zf : Value} {E : rE} {w k : Nat} (hD : rO (dM L xs zf w k) E L xs) : ∀ p ∈ rT w, ∀ (As : List Value) (h : rm_H) (s : rS) (r : rA), RS h s → p.2 E As s = some r → rx (dM L xs zf w (k + 1) p.1 As h) h r := by
  intro p hp
  unfold rT at hp
  rcases List.mem_append.mp hp with hp | hp
  · exact rTo_0 hD p hp
  rcases List.mem_append.mp hp with hp | hp
  · exact rTo_1 hD p hp
  rcases List.mem_append.mp hp with hp | hp
  · exact rTo_2 hD p hp
  rcases List.mem_append.mp hp with hp | hp
  · exact rTo_3 hD p hp
  exact rTo_4 hD p hp
def rI (mi : Nat) : Nat := if mi ≤ 287 then mi - 286 else mi - 287
def rM (w : Nat) : Nat → rE
  | 0 => fun _ _ _ => none
  | k + 1 => fun mi As s => match (rT w)[rI mi]? with
    | some p => if p.1 = mi then p.2 (rM w k) As s else none
    | none => none
theorem rM_O {L : Nat} {xs : Nat → Int32} {zf : Value} (w : Nat) : ∀ k : Nat, rO (dM L xs zf w k) (rM w k) L xs
  | 0 => fun _ _ _ _ _ _ hq => by cases hq
  | k + 1 => by
    intro mi As h s r hR hq
    have hq : (match (rT w)[rI mi]? with
      | some p => if p.1 = mi then p.2 (rM w k) As s else none
      | none => none) = some r := hq
    cases e : (rT w)[rI mi]? with
    | none => rw [e] at hq; cases hq
    | some p =>
      rw [e] at hq
      dsimp only at hq
      split at hq
      · rename_i em
        rw [← em]
        exact rT_o (rM_O w k) p (List.mem_of_getElem? e) As h s r hR hq
      · cases hq
theorem y286 (w k : Nat) (As : List Value) (s : rS) : rM w (k + 1) 286 As s = g286 (rM w k) w As s := rfl
theorem y287 (w k : Nat) (As : List Value) (s : rS) : rM w (k + 1) 287 As s = g287 (rM w k) w As s := rfl
theorem y289 (w k : Nat) (As : List Value) (s : rS) : rM w (k + 1) 289 As s = g289 (rM w k) w As s := rfl
theorem y290 (w k : Nat) (As : List Value) (s : rS) : rM w (k + 1) 290 As s = g290 (rM w k) w As s := rfl
theorem y291 (w k : Nat) (As : List Value) (s : rS) : rM w (k + 1) 291 As s = g291 (rM w k) w As s := rfl
theorem y292 (w k : Nat) (As : List Value) (s : rS) : rM w (k + 1) 292 As s = g292 (rM w k) w As s := rfl
theorem y293 (w k : Nat) (As : List Value) (s : rS) : rM w (k + 1) 293 As s = g293 (rM w k) w As s := rfl
theorem y294 (w k : Nat) (As : List Value) (s : rS) : rM w (k + 1) 294 As s = g294 (rM w k) w As s := rfl
theorem y295 (w k : Nat) (As : List Value) (s : rS) : rM w (k + 1) 295 As s = g295 (rM w k) w As s := rfl
theorem y296 (w k : Nat) (As : List Value) (s : rS) : rM w (k + 1) 296 As s = g296 (rM w k) w As s := rfl
theorem y297 (w k : Nat) (As : List Value) (s : rS) : rM w (k + 1) 297 As s = g297 (rM w k) w As s := rfl
theorem y298 (w k : Nat) (As : List Value) (s : rS) : rM w (k + 1) 298 As s = g298 (rM w k) w As s := rfl
theorem y299 (w k : Nat) (As : List Value) (s : rS) : rM w (k + 1) 299 As s = g299 (rM w k) w As s := rfl
theorem y300 (w k : Nat) (As : List Value) (s : rS) : rM w (k + 1) 300 As s = g300 (rM w k) w As s := rfl
theorem y301 (w k : Nat) (As : List Value) (s : rS) : rM w (k + 1) 301 As s = g301 (rM w k) w As s := rfl
theorem y302 (w k : Nat) (As : List Value) (s : rS) : rM w (k + 1) 302 As s = g302 (rM w k) w As s := rfl
theorem y303 (w k : Nat) (As : List Value) (s : rS) : rM w (k + 1) 303 As s = g303 (rM w k) w As s := rfl
theorem y304 (w k : Nat) (As : List Value) (s : rS) : rM w (k + 1) 304 As s = g304 (rM w k) w As s := rfl
theorem y305 (w k : Nat) (As : List Value) (s : rS) : rM w (k + 1) 305 As s = g305 (rM w k) w As s := rfl
theorem y306 (w k : Nat) (As : List Value) (s : rS) : rM w (k + 1) 306 As s = g306 (rM w k) w As s := rfl
theorem y307 (w k : Nat) (As : List Value) (s : rS) : rM w (k + 1) 307 As s = g307 (rM w k) w As s := rfl
theorem y308 (w k : Nat) (As : List Value) (s : rS) : rM w (k + 1) 308 As s = g308 (rM w k) w As s := rfl
theorem y309 (w k : Nat) (As : List Value) (s : rS) : rM w (k + 1) 309 As s = g309 (rM w k) w As s := rfl
theorem y310 (w k : Nat) (As : List Value) (s : rS) : rM w (k + 1) 310 As s = g310 (rM w k) w As s := rfl
theorem y311 (w k : Nat) (As : List Value) (s : rS) : rM w (k + 1) 311 As s = g311 (rM w k) w As s := rfl
theorem y312 (w k : Nat) (As : List Value) (s : rS) : rM w (k + 1) 312 As s = g312 (rM w k) w As s := rfl
theorem y313 (w k : Nat) (As : List Value) (s : rS) : rM w (k + 1) 313 As s = g313 (rM w k) w As s := rfl
theorem y314 (w k : Nat) (As : List Value) (s : rS) : rM w (k + 1) 314 As s = g314 (rM w k) w As s := rfl
theorem y315 (w k : Nat) (As : List Value) (s : rS) : rM w (k + 1) 315 As s = g315 (rM w k) w As s := rfl
theorem y316 (w k : Nat) (As : List Value) (s : rS) : rM w (k + 1) 316 As s = g316 (rM w k) w As s := rfl
theorem y317 (w k : Nat) (As : List Value) (s : rS) : rM w (k + 1) 317 As s = g317 (rM w k) w As s := rfl
theorem y318 (w k : Nat) (As : List Value) (s : rS) : rM w (k + 1) 318 As s = g318 (rM w k) w As s := rfl
theorem y319 (w k : Nat) (As : List Value) (s : rS) : rM w (k + 1) 319 As s = g319 (rM w k) w As s := rfl
theorem y320 (w k : Nat) (As : List Value) (s : rS) : rM w (k + 1) 320 As s = g320 (rM w k) w As s := rfl
theorem y321 (w k : Nat) (As : List Value) (s : rS) : rM w (k + 1) 321 As s = g321 (rM w k) w As s := rfl
theorem y322 (w k : Nat) (As : List Value) (s : rS) : rM w (k + 1) 322 As s = g322 (rM w k) w As s := rfl
theorem y323 (w k : Nat) (As : List Value) (s : rS) : rM w (k + 1) 323 As s = g323 (rM w k) w As s := rfl
theorem y324 (w k : Nat) (As : List Value) (s : rS) : rM w (k + 1) 324 As s = g324 (rM w k) w As s := rfl
theorem y325 (w k : Nat) (As : List Value) (s : rS) : rM w (k + 1) 325 As s = g325 (rM w k) w As s := rfl
theorem y326 (w k : Nat) (As : List Value) (s : rS) : rM w (k + 1) 326 As s = g326 (rM w k) w As s := rfl
theorem y327 (w k : Nat) (As : List Value) (s : rS) : rM w (k + 1) 327 As s = g327 (rM w k) w As s := rfl
theorem y328 (w k : Nat) (As : List Value) (s : rS) : rM w (k + 1) 328 As s = g328 (rM w k) w As s := rfl
theorem y329 (w k : Nat) (As : List Value) (s : rS) : rM w (k + 1) 329 As s = g329 (rM w k) w As s := rfl
theorem y330 (w k : Nat) (As : List Value) (s : rS) : rM w (k + 1) 330 As s = g330 (rM w k) w As s := rfl
theorem y331 (w k : Nat) (As : List Value) (s : rS) : rM w (k + 1) 331 As s = g331 (rM w k) w As s := rfl
theorem y332 (w k : Nat) (As : List Value) (s : rS) : rM w (k + 1) 332 As s = g332 (rM w k) w As s := rfl
theorem y333 (w k : Nat) (As : List Value) (s : rS) : rM w (k + 1) 333 As s = g333 (rM w k) w As s := rfl
theorem y334 (w k : Nat) (As : List Value) (s : rS) : rM w (k + 1) 334 As s = g334 (rM w k) w As s := rfl
theorem y335 (w k : Nat) (As : List Value) (s : rS) : rM w (k + 1) 335 As s = g335 (rM w k) w As s := rfl
theorem y336 (w k : Nat) (As : List Value) (s : rS) : rM w (k + 1) 336 As s = g336 (rM w k) w As s := rfl
theorem y337 (w k : Nat) (As : List Value) (s : rS) : rM w (k + 1) 337 As s = g337 (rM w k) w As s := rfl
theorem y338 (w k : Nat) (As : List Value) (s : rS) : rM w (k + 1) 338 As s = g338 (rM w k) w As s := rfl
theorem y339 (w k : Nat) (As : List Value) (s : rS) : rM w (k + 1) 339 As s = g339 (rM w k) w As s := rfl
theorem y340 (w k : Nat) (As : List Value) (s : rS) : rM w (k + 1) 340 As s = g340 (rM w k) w As s := rfl
theorem y341 (w k : Nat) (As : List Value) (s : rS) : rM w (k + 1) 341 As s = g341 (rM w k) w As s := rfl
theorem y342 (w k : Nat) (As : List Value) (s : rS) : rM w (k + 1) 342 As s = g342 (rM w k) w As s := rfl
theorem y343 (w k : Nat) (As : List Value) (s : rS) : rM w (k + 1) 343 As s = g343 (rM w k) w As s := rfl
theorem y344 (w k : Nat) (As : List Value) (s : rS) : rM w (k + 1) 344 As s = g344 (rM w k) w As s := rfl
theorem y345 (w k : Nat) (As : List Value) (s : rS) : rM w (k + 1) 345 As s = g345 (rM w k) w As s := rfl
theorem y346 (w k : Nat) (As : List Value) (s : rS) : rM w (k + 1) 346 As s = g346 (rM w k) w As s := rfl
theorem y347 (w k : Nat) (As : List Value) (s : rS) : rM w (k + 1) 347 As s = g347 (rM w k) w As s := rfl
theorem y348 (w k : Nat) (As : List Value) (s : rS) : rM w (k + 1) 348 As s = g348 (rM w k) w As s := rfl
theorem y349 (w k : Nat) (As : List Value) (s : rS) : rM w (k + 1) 349 As s = g349 (rM w k) w As s := rfl
theorem y350 (w k : Nat) (As : List Value) (s : rS) : rM w (k + 1) 350 As s = g350 (rM w k) w As s := rfl
theorem y351 (w k : Nat) (As : List Value) (s : rS) : rM w (k + 1) 351 As s = g351 (rM w k) w As s := rfl
theorem y352 (w k : Nat) (As : List Value) (s : rS) : rM w (k + 1) 352 As s = g352 (rM w k) w As s := rfl
theorem y353 (w k : Nat) (As : List Value) (s : rS) : rM w (k + 1) 353 As s = g353 (rM w k) w As s := rfl
theorem y354 (w k : Nat) (As : List Value) (s : rS) : rM w (k + 1) 354 As s = g354 (rM w k) w As s := rfl
theorem y355 (w k : Nat) (As : List Value) (s : rS) : rM w (k + 1) 355 As s = g355 (rM w k) w As s := rfl
theorem y356 (w k : Nat) (As : List Value) (s : rS) : rM w (k + 1) 356 As s = g356 (rM w k) w As s := rfl
theorem y357 (w k : Nat) (As : List Value) (s : rS) : rM w (k + 1) 357 As s = g357 (rM w k) w As s := rfl
theorem y358 (w k : Nat) (As : List Value) (s : rS) : rM w (k + 1) 358 As s = g358 (rM w k) w As s := rfl
theorem y359 (w k : Nat) (As : List Value) (s : rS) : rM w (k + 1) 359 As s = g359 (rM w k) w As s := rfl
theorem y360 (w k : Nat) (As : List Value) (s : rS) : rM w (k + 1) 360 As s = g360 (rM w k) w As s := rfl
theorem y361 (w k : Nat) (As : List Value) (s : rS) : rM w (k + 1) 361 As s = g361 (rM w k) w As s := rfl
theorem y362 (w k : Nat) (As : List Value) (s : rS) : rM w (k + 1) 362 As s = g362 (rM w k) w As s := rfl
theorem y363 (w k : Nat) (As : List Value) (s : rS) : rM w (k + 1) 363 As s = g363 (rM w k) w As s := rfl
theorem y364 (w k : Nat) (As : List Value) (s : rS) : rM w (k + 1) 364 As s = g364 (rM w k) w As s := rfl
theorem y365 (w k : Nat) (As : List Value) (s : rS) : rM w (k + 1) 365 As s = g365 (rM w k) w As s := rfl
theorem y366 (w k : Nat) (As : List Value) (s : rS) : rM w (k + 1) 366 As s = g366 (rM w k) w As s := rfl
theorem y367 (w k : Nat) (As : List Value) (s : rS) : rM w (k + 1) 367 As s = g367 (rM w k) w As s := rfl
theorem y368 (w k : Nat) (As : List Value) (s : rS) : rM w (k + 1) 368 As s = g368 (rM w k) w As s := rfl
theorem y369 (w k : Nat) (As : List Value) (s : rS) : rM w (k + 1) 369 As s = g369 (rM w k) w As s := rfl
theorem y370 (w k : Nat) (As : List Value) (s : rS) : rM w (k + 1) 370 As s = g370 (rM w k) w As s := rfl
theorem y371 (w k : Nat) (As : List Value) (s : rS) : rM w (k + 1) 371 As s = g371 (rM w k) w As s := rfl
theorem y372 (w k : Nat) (As : List Value) (s : rS) : rM w (k + 1) 372 As s = g372 (rM w k) w As s := rfl
theorem y373 (w k : Nat) (As : List Value) (s : rS) : rM w (k + 1) 373 As s = g373 (rM w k) w As s := rfl
theorem y374 (w k : Nat) (As : List Value) (s : rS) : rM w (k + 1) 374 As s = g374 (rM w k) w As s := rfl
theorem y375 (w k : Nat) (As : List Value) (s : rS) : rM w (k + 1) 375 As s = g375 (rM w k) w As s := rfl
theorem y376 (w k : Nat) (As : List Value) (s : rS) : rM w (k + 1) 376 As s = g376 (rM w k) w As s := rfl
theorem y377 (w k : Nat) (As : List Value) (s : rS) : rM w (k + 1) 377 As s = g377 (rM w k) w As s := rfl
theorem y378 (w k : Nat) (As : List Value) (s : rS) : rM w (k + 1) 378 As s = g378 (rM w k) w As s := rfl
theorem y379 (w k : Nat) (As : List Value) (s : rS) : rM w (k + 1) 379 As s = g379 (rM w k) w As s := rfl
theorem y380 (w k : Nat) (As : List Value) (s : rS) : rM w (k + 1) 380 As s = g380 (rM w k) w As s := rfl
theorem y381 (w k : Nat) (As : List Value) (s : rS) : rM w (k + 1) 381 As s = g381 (rM w k) w As s := rfl
theorem y382 (w k : Nat) (As : List Value) (s : rS) : rM w (k + 1) 382 As s = g382 (rM w k) w As s := rfl
theorem y383 (w k : Nat) (As : List Value) (s : rS) : rM w (k + 1) 383 As s = g383 (rM w k) w As s := rfl
theorem y384 (w k : Nat) (As : List Value) (s : rS) : rM w (k + 1) 384 As s = g384 (rM w k) w As s := rfl
theorem y385 (w k : Nat) (As : List Value) (s : rS) : rM w (k + 1) 385 As s = g385 (rM w k) w As s := rfl
theorem y386 (w k : Nat) (As : List Value) (s : rS) : rM w (k + 1) 386 As s = g386 (rM w k) w As s := rfl
theorem y387 (w k : Nat) (As : List Value) (s : rS) : rM w (k + 1) 387 As s = g387 (rM w k) w As s := rfl
theorem y388 (w k : Nat) (As : List Value) (s : rS) : rM w (k + 1) 388 As s = g388 (rM w k) w As s := rfl
theorem y389 (w k : Nat) (As : List Value) (s : rS) : rM w (k + 1) 389 As s = g389 (rM w k) w As s := rfl
theorem y390 (w k : Nat) (As : List Value) (s : rS) : rM w (k + 1) 390 As s = g390 (rM w k) w As s := rfl
theorem y391 (w k : Nat) (As : List Value) (s : rS) : rM w (k + 1) 391 As s = g391 (rM w k) w As s := rfl
theorem y392 (w k : Nat) (As : List Value) (s : rS) : rM w (k + 1) 392 As s = g392 (rM w k) w As s := rfl
theorem y393 (w k : Nat) (As : List Value) (s : rS) : rM w (k + 1) 393 As s = g393 (rM w k) w As s := rfl
theorem y394 (w k : Nat) (As : List Value) (s : rS) : rM w (k + 1) 394 As s = g394 (rM w k) w As s := rfl
theorem y395 (w k : Nat) (As : List Value) (s : rS) : rM w (k + 1) 395 As s = g395 (rM w k) w As s := rfl
theorem y396 (w k : Nat) (As : List Value) (s : rS) : rM w (k + 1) 396 As s = g396 (rM w k) w As s := rfl
theorem y397 (w k : Nat) (As : List Value) (s : rS) : rM w (k + 1) 397 As s = g397 (rM w k) w As s := rfl
theorem y398 (w k : Nat) (As : List Value) (s : rS) : rM w (k + 1) 398 As s = g398 (rM w k) w As s := rfl
theorem y399 (w k : Nat) (As : List Value) (s : rS) : rM w (k + 1) 399 As s = g399 (rM w k) w As s := rfl
theorem y400 (w k : Nat) (As : List Value) (s : rS) : rM w (k + 1) 400 As s = g400 (rM w k) w As s := rfl
theorem y401 (w k : Nat) (As : List Value) (s : rS) : rM w (k + 1) 401 As s = g401 (rM w k) w As s := rfl
theorem y402 (w k : Nat) (As : List Value) (s : rS) : rM w (k + 1) 402 As s = g402 (rM w k) w As s := rfl
theorem y403 (w k : Nat) (As : List Value) (s : rS) : rM w (k + 1) 403 As s = g403 (rM w k) w As s := rfl
theorem y404 (w k : Nat) (As : List Value) (s : rS) : rM w (k + 1) 404 As s = g404 (rM w k) w As s := rfl
theorem y405 (w k : Nat) (As : List Value) (s : rS) : rM w (k + 1) 405 As s = g405 (rM w k) w As s := rfl
theorem y406 (w k : Nat) (As : List Value) (s : rS) : rM w (k + 1) 406 As s = g406 (rM w k) w As s := rfl
theorem y407 (w k : Nat) (As : List Value) (s : rS) : rM w (k + 1) 407 As s = g407 (rM w k) w As s := rfl
theorem y408 (w k : Nat) (As : List Value) (s : rS) : rM w (k + 1) 408 As s = g408 (rM w k) w As s := rfl
theorem y409 (w k : Nat) (As : List Value) (s : rS) : rM w (k + 1) 409 As s = g409 (rM w k) w As s := rfl
theorem y410 (w k : Nat) (As : List Value) (s : rS) : rM w (k + 1) 410 As s = g410 (rM w k) w As s := rfl
theorem y411 (w k : Nat) (As : List Value) (s : rS) : rM w (k + 1) 411 As s = g411 (rM w k) w As s := rfl
theorem y412 (w k : Nat) (As : List Value) (s : rS) : rM w (k + 1) 412 As s = g412 (rM w k) w As s := rfl
theorem y413 (w k : Nat) (As : List Value) (s : rS) : rM w (k + 1) 413 As s = g413 (rM w k) w As s := rfl
