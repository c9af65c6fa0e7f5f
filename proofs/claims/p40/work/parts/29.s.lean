section zz29_sbase
/-! SAFETY: bounds of the numbers of a world, by the code of their place; kept by every store -/
def cbL : List (Nat → Int × Int) := [(fun k => [(-2147483648, 2147483647), (-2147483648, 2147483647), (-2147483648, 2147483647), (-2147483648, 2147483647), (-2147483648, 2147483647), (-2147483648, 2147483647), (-2147483648, 2147483647), (-2147483648, 2147483647), (-2147483648, 2147483647), (-2147483648, 2147483647), (0, 40)].getD k (-2147483648, 2147483647)), (fun k => [(0, 255), (0, 100), (-1, 5), (-2147483648, 2147483647), (-2147483648, 2147483647), (-2147483648, 2147483647), (0, 9)].getD k (-2147483648, 2147483647)), (fun _ => (0, 255)), (fun _ => (-2147483648, 2147483647)), (fun _ => (-2147483648, 2147483647)), (fun _ => (0, 9)), (fun k => [(-2147483648, 2147483647), (0, 24)].getD k (-2147483648, 2147483647)), (fun _ => (-2147483648, 2147483647)), (fun k => [(-2147483648, 2147483647), (-2147483648, 2147483647), (0, 4)].getD k (-2147483648, 2147483647)), (fun _ => (-2147483648, 2147483647)), (fun _ => (-2147483648, 2147483647)), (fun k => [(0, 5000), (-9, 9), (0, 12)].getD k (-2147483648, 2147483647)), (fun _ => (0, 5000)), (fun _ => (-9, 9)), (fun k => [(-2147483648, 2147483647), (0, 1), (0, 23), (-2147483648, 2147483647), (-2147483648, 2147483647), (-2147483648, 2147483647)].getD k (-2147483648, 2147483647)), (fun _ => (-2147483648, 2147483647)), (fun k => [(0, 4), (0, 5000), (0, 24), (-2147483648, 2147483647)].getD k (-2147483648, 2147483647)), (fun _ => (0, 24)), (fun _ => (-2147483648, 2147483647)), (fun k => [(0, 100000), (0, 9), (0, 6), (0, 23), (-2147483648, 2147483647), (-2147483648, 2147483647), (0, 1000000), (-2147483648, 2147483647), (-2147483648, 2147483647)].getD k (-2147483648, 2147483647)), (fun _ => (0, 100000)), (fun _ => (0, 9)), (fun _ => (0, 23)), (fun _ => (-2147483648, 2147483647)), (fun _ => (0, 63)), (fun _ => (-2147483648, 2147483647)), (fun _ => (0, 1000000)), (fun _ => (0, 1000000)), (fun _ => (-2147483648, 2147483647)), (fun _ => (-2147483648, 2147483647)), (fun k => [(0, 2000), (-2147483648, 2147483647), (-2147483648, 2147483647), (0, 20), (-2147483648, 2147483647), (0, 20), (-2147483648, 2147483647), (-2147483648, 2147483647)].getD k (-2147483648, 2147483647)), (fun _ => (-2147483648, 2147483647)), (fun _ => (-2147483648, 2147483647)), (fun _ => (-2147483648, 2147483647)), (fun k => [(-2147483648, 2147483647), (0, 60), (-2147483648, 2147483647), (-2147483648, 2147483647)].getD k (-2147483648, 2147483647)), (fun _ => (-2147483648, 2147483647)), (fun _ => (-2147483648, 2147483647)), (fun _ => (-2147483648, 2147483647)), (fun k => [(0, 5), (-2147483648, 2147483647), (0, 41), (-2147483648, 2147483647), (0, 8), (-2147483648, 2147483647)].getD k (-2147483648, 2147483647)), (fun _ => (-2147483648, 2147483647)), (fun _ => (-2147483648, 2147483647)), (fun _ => (-2147483648, 2147483647)), (fun _ => (0, 8)), (fun _ => (-2147483648, 2147483647)), (fun k => [(0, 16), (-2147483648, 2147483647), (-2147483648, 2147483647), (-2147483648, 2147483647), (-2147483648, 2147483647)].getD k (-2147483648, 2147483647)), (fun _ => (-2147483648, 2147483647)), (fun _ => (-2147483648, 2147483647)), (fun _ => (-2147483648, 2147483647)), (fun _ => (-2147483648, 2147483647)), (fun _ => (-2147483648, 2147483647)), (fun k => [(-128, 127), (0, 100), (-2147483648, 2147483647), (0, 24), (-2147483648, 2147483647), (0, 24), (0, 1), (0, 23), (-2147483648, 2147483647), (-2147483648, 2147483647), (0, 4), (0, 5000), (-9, 9), (0, 12), (0, 100000), (0, 9), (0, 6), (-2147483648, 2147483647), (0, 20), (-2147483648, 2147483647), (0, 20), (-2147483648, 2147483647), (0, 2000), (-2147483648, 2147483647), (0, 60), (-2147483648, 2147483647), (0, 8), (0, 5), (-2147483648, 2147483647), (0, 24), (-2147483648, 2147483647), (-2147483648, 2147483647), (0, 16), (-2147483648, 2147483647), (-1, 64), (-2147483648, 2147483647), (0, 100), (-2147483648, 2147483647), (-2147483648, 2147483647), (0, 24), (-2147483648, 2147483647), (0, 24), (-2147483648, 2147483647), (0, 268435456), (0, 63), (-2147483648, 2147483647), (-2147483648, 2147483647), (-2147483648, 2147483647), (-1, 40), (-2147483648, 2147483647)].getD k (-2147483648, 2147483647)), (fun _ => (-128, 127)), (fun _ => (-2147483648, 2147483647)), (fun _ => (-2147483648, 2147483647)), (fun _ => (0, 24)), (fun _ => (0, 1)), (fun _ => (0, 23)), (fun _ => (-2147483648, 2147483647)), (fun _ => (-2147483648, 2147483647)), (fun _ => (0, 5000)), (fun _ => (-9, 9)), (fun _ => (0, 12)), (fun _ => (0, 100000)), (fun _ => (0, 9)), (fun _ => (-2147483648, 2147483647)), (fun _ => (-2147483648, 2147483647)), (fun _ => (-2147483648, 2147483647)), (fun _ => (0, 8)), (fun _ => (-2147483648, 2147483647)), (fun _ => (0, 24)), (fun _ => (-2147483648, 2147483647)), (fun _ => (-2147483648, 2147483647)), (fun _ => (-2147483648, 2147483647)), (fun _ => (-2147483648, 2147483647)), (fun _ => (0, 24)), (fun _ => (-2147483648, 2147483647)), (fun _ => (0, 24)), (fun _ => (-2147483648, 2147483647)), (fun _ => (0, 268435456)), (fun _ => (0, 63)), (fun _ => (-2147483648, 2147483647)), (fun _ => (-2147483648, 2147483647)), (fun _ => (-2147483648, 2147483647)), (fun _ => (-2147483648, 2147483647))]
def cbt (q : Nat) : Nat → Int × Int := cbL.getD q (fun _ => (-2147483648, 2147483647))
theorem getD_P {l : List (Int × Int)} {d : Int × Int} (h : ∀ x ∈ l, -2147483648 ≤ x.1 ∧ x.2 ≤ 2147483647) (hd : -2147483648 ≤ d.1 ∧ d.2 ≤ 2147483647) (k : Nat) : -2147483648 ≤ (l.getD k d).1 ∧ (l.getD k d).2 ≤ 2147483647 := by
  rw [List.getD_eq_getElem?_getD]
  cases e : l[k]? with
  | none => exact hd
  | some x => exact h x (List.mem_of_getElem? e)
theorem cbL_ok : ∀ f ∈ cbL, ∀ k, -2147483648 ≤ (f k).1 ∧ (f k).2 ≤ 2147483647 := by
  unfold cbL
  refine List.forall_mem_cons.mpr ⟨fun k => getD_P (by decide) (by decide) k, ?_⟩
  refine List.forall_mem_cons.mpr ⟨fun k => getD_P (by decide) (by decide) k, ?_⟩
  refine List.forall_mem_cons.mpr ⟨fun k => (show (-2147483648 : Int) ≤ (0 : Int) ∧ (255 : Int) ≤ 2147483647 from by decide), ?_⟩
  refine List.forall_mem_cons.mpr ⟨fun k => (show (-2147483648 : Int) ≤ (-2147483648 : Int) ∧ (2147483647 : Int) ≤ 2147483647 from by decide), ?_⟩
  refine List.forall_mem_cons.mpr ⟨fun k => (show (-2147483648 : Int) ≤ (-2147483648 : Int) ∧ (2147483647 : Int) ≤ 2147483647 from by decide), ?_⟩
  refine List.forall_mem_cons.mpr ⟨fun k => (show (-2147483648 : Int) ≤ (0 : Int) ∧ (9 : Int) ≤ 2147483647 from by decide), ?_⟩
  refine List.forall_mem_cons.mpr ⟨fun k => getD_P (by decide) (by decide) k, ?_⟩
  refine List.forall_mem_cons.mpr ⟨fun k => (show (-2147483648 : Int) ≤ (-2147483648 : Int) ∧ (2147483647 : Int) ≤ 2147483647 from by decide), ?_⟩
  refine List.forall_mem_cons.mpr ⟨fun k => getD_P (by decide) (by decide) k, ?_⟩
  refine List.forall_mem_cons.mpr ⟨fun k => (show (-2147483648 : Int) ≤ (-2147483648 : Int) ∧ (2147483647 : Int) ≤ 2147483647 from by decide), ?_⟩
  refine List.forall_mem_cons.mpr ⟨fun k => (show (-2147483648 : Int) ≤ (-2147483648 : Int) ∧ (2147483647 : Int) ≤ 2147483647 from by decide), ?_⟩
  refine List.forall_mem_cons.mpr ⟨fun k => getD_P (by decide) (by decide) k, ?_⟩
  refine List.forall_mem_cons.mpr ⟨fun k => (show (-2147483648 : Int) ≤ (0 : Int) ∧ (5000 : Int) ≤ 2147483647 from by decide), ?_⟩
  refine List.forall_mem_cons.mpr ⟨fun k => (show (-2147483648 : Int) ≤ (-9 : Int) ∧ (9 : Int) ≤ 2147483647 from by decide), ?_⟩
  refine List.forall_mem_cons.mpr ⟨fun k => getD_P (by decide) (by decide) k, ?_⟩
  refine List.forall_mem_cons.mpr ⟨fun k => (show (-2147483648 : Int) ≤ (-2147483648 : Int) ∧ (2147483647 : Int) ≤ 2147483647 from by decide), ?_⟩
  refine List.forall_mem_cons.mpr ⟨fun k => getD_P (by decide) (by decide) k, ?_⟩
  refine List.forall_mem_cons.mpr ⟨fun k => (show (-2147483648 : Int) ≤ (0 : Int) ∧ (24 : Int) ≤ 2147483647 from by decide), ?_⟩
  refine List.forall_mem_cons.mpr ⟨fun k => (show (-2147483648 : Int) ≤ (-2147483648 : Int) ∧ (2147483647 : Int) ≤ 2147483647 from by decide), ?_⟩
  refine List.forall_mem_cons.mpr ⟨fun k => getD_P (by decide) (by decide) k, ?_⟩
  refine List.forall_mem_cons.mpr ⟨fun k => (show (-2147483648 : Int) ≤ (0 : Int) ∧ (100000 : Int) ≤ 2147483647 from by decide), ?_⟩
  refine List.forall_mem_cons.mpr ⟨fun k => (show (-2147483648 : Int) ≤ (0 : Int) ∧ (9 : Int) ≤ 2147483647 from by decide), ?_⟩
  refine List.forall_mem_cons.mpr ⟨fun k => (show (-2147483648 : Int) ≤ (0 : Int) ∧ (23 : Int) ≤ 2147483647 from by decide), ?_⟩
  refine List.forall_mem_cons.mpr ⟨fun k => (show (-2147483648 : Int) ≤ (-2147483648 : Int) ∧ (2147483647 : Int) ≤ 2147483647 from by decide), ?_⟩
  refine List.forall_mem_cons.mpr ⟨fun k => (show (-2147483648 : Int) ≤ (0 : Int) ∧ (63 : Int) ≤ 2147483647 from by decide), ?_⟩
  refine List.forall_mem_cons.mpr ⟨fun k => (show (-2147483648 : Int) ≤ (-2147483648 : Int) ∧ (2147483647 : Int) ≤ 2147483647 from by decide), ?_⟩
  refine List.forall_mem_cons.mpr ⟨fun k => (show (-2147483648 : Int) ≤ (0 : Int) ∧ (1000000 : Int) ≤ 2147483647 from by decide), ?_⟩
  refine List.forall_mem_cons.mpr ⟨fun k => (show (-2147483648 : Int) ≤ (0 : Int) ∧ (1000000 : Int) ≤ 2147483647 from by decide), ?_⟩
  refine List.forall_mem_cons.mpr ⟨fun k => (show (-2147483648 : Int) ≤ (-2147483648 : Int) ∧ (2147483647 : Int) ≤ 2147483647 from by decide), ?_⟩
  refine List.forall_mem_cons.mpr ⟨fun k => (show (-2147483648 : Int) ≤ (-2147483648 : Int) ∧ (2147483647 : Int) ≤ 2147483647 from by decide), ?_⟩
  refine List.forall_mem_cons.mpr ⟨fun k => getD_P (by decide) (by decide) k, ?_⟩
  refine List.forall_mem_cons.mpr ⟨fun k => (show (-2147483648 : Int) ≤ (-2147483648 : Int) ∧ (2147483647 : Int) ≤ 2147483647 from by decide), ?_⟩
  refine List.forall_mem_cons.mpr ⟨fun k => (show (-2147483648 : Int) ≤ (-2147483648 : Int) ∧ (2147483647 : Int) ≤ 2147483647 from by decide), ?_⟩
  refine List.forall_mem_cons.mpr ⟨fun k => (show (-2147483648 : Int) ≤ (-2147483648 : Int) ∧ (2147483647 : Int) ≤ 2147483647 from by decide), ?_⟩
  refine List.forall_mem_cons.mpr ⟨fun k => getD_P (by decide) (by decide) k, ?_⟩
  refine List.forall_mem_cons.mpr ⟨fun k => (show (-2147483648 : Int) ≤ (-2147483648 : Int) ∧ (2147483647 : Int) ≤ 2147483647 from by decide), ?_⟩
  refine List.forall_mem_cons.mpr ⟨fun k => (show (-2147483648 : Int) ≤ (-2147483648 : Int) ∧ (2147483647 : Int) ≤ 2147483647 from by decide), ?_⟩
  refine List.forall_mem_cons.mpr ⟨fun k => (show (-2147483648 : Int) ≤ (-2147483648 : Int) ∧ (2147483647 : Int) ≤ 2147483647 from by decide), ?_⟩
  refine List.forall_mem_cons.mpr ⟨fun k => getD_P (by decide) (by decide) k, ?_⟩
  refine List.forall_mem_cons.mpr ⟨fun k => (show (-2147483648 : Int) ≤ (-2147483648 : Int) ∧ (2147483647 : Int) ≤ 2147483647 from by decide), ?_⟩
  refine List.forall_mem_cons.mpr ⟨fun k => (show (-2147483648 : Int) ≤ (-2147483648 : Int) ∧ (2147483647 : Int) ≤ 2147483647 from by decide), ?_⟩
  refine List.forall_mem_cons.mpr ⟨fun k => (show (-2147483648 : Int) ≤ (-2147483648 : Int) ∧ (2147483647 : Int) ≤ 2147483647 from by decide), ?_⟩
  refine List.forall_mem_cons.mpr ⟨fun k => (show (-2147483648 : Int) ≤ (0 : Int) ∧ (8 : Int) ≤ 2147483647 from by decide), ?_⟩
  refine List.forall_mem_cons.mpr ⟨fun k => (show (-2147483648 : Int) ≤ (-2147483648 : Int) ∧ (2147483647 : Int) ≤ 2147483647 from by decide), ?_⟩
  refine List.forall_mem_cons.mpr ⟨fun k => getD_P (by decide) (by decide) k, ?_⟩
  refine List.forall_mem_cons.mpr ⟨fun k => (show (-2147483648 : Int) ≤ (-2147483648 : Int) ∧ (2147483647 : Int) ≤ 2147483647 from by decide), ?_⟩
  refine List.forall_mem_cons.mpr ⟨fun k => (show (-2147483648 : Int) ≤ (-2147483648 : Int) ∧ (2147483647 : Int) ≤ 2147483647 from by decide), ?_⟩
  refine List.forall_mem_cons.mpr ⟨fun k => (show (-2147483648 : Int) ≤ (-2147483648 : Int) ∧ (2147483647 : Int) ≤ 2147483647 from by decide), ?_⟩
  refine List.forall_mem_cons.mpr ⟨fun k => (show (-2147483648 : Int) ≤ (-2147483648 : Int) ∧ (2147483647 : Int) ≤ 2147483647 from by decide), ?_⟩
  refine List.forall_mem_cons.mpr ⟨fun k => (show (-2147483648 : Int) ≤ (-2147483648 : Int) ∧ (2147483647 : Int) ≤ 2147483647 from by decide), ?_⟩
  refine List.forall_mem_cons.mpr ⟨fun k => getD_P (by decide) (by decide) k, ?_⟩
  refine List.forall_mem_cons.mpr ⟨fun k => (show (-2147483648 : Int) ≤ (-128 : Int) ∧ (127 : Int) ≤ 2147483647 from by decide), ?_⟩
  refine List.forall_mem_cons.mpr ⟨fun k => (show (-2147483648 : Int) ≤ (-2147483648 : Int) ∧ (2147483647 : Int) ≤ 2147483647 from by decide), ?_⟩
  refine List.forall_mem_cons.mpr ⟨fun k => (show (-2147483648 : Int) ≤ (-2147483648 : Int) ∧ (2147483647 : Int) ≤ 2147483647 from by decide), ?_⟩
  refine List.forall_mem_cons.mpr ⟨fun k => (show (-2147483648 : Int) ≤ (0 : Int) ∧ (24 : Int) ≤ 2147483647 from by decide), ?_⟩
  refine List.forall_mem_cons.mpr ⟨fun k => (show (-2147483648 : Int) ≤ (0 : Int) ∧ (1 : Int) ≤ 2147483647 from by decide), ?_⟩
  refine List.forall_mem_cons.mpr ⟨fun k => (show (-2147483648 : Int) ≤ (0 : Int) ∧ (23 : Int) ≤ 2147483647 from by decide), ?_⟩
  refine List.forall_mem_cons.mpr ⟨fun k => (show (-2147483648 : Int) ≤ (-2147483648 : Int) ∧ (2147483647 : Int) ≤ 2147483647 from by decide), ?_⟩
  refine List.forall_mem_cons.mpr ⟨fun k => (show (-2147483648 : Int) ≤ (-2147483648 : Int) ∧ (2147483647 : Int) ≤ 2147483647 from by decide), ?_⟩
  refine List.forall_mem_cons.mpr ⟨fun k => (show (-2147483648 : Int) ≤ (0 : Int) ∧ (5000 : Int) ≤ 2147483647 from by decide), ?_⟩
  refine List.forall_mem_cons.mpr ⟨fun k => (show (-2147483648 : Int) ≤ (-9 : Int) ∧ (9 : Int) ≤ 2147483647 from by decide), ?_⟩
  refine List.forall_mem_cons.mpr ⟨fun k => (show (-2147483648 : Int) ≤ (0 : Int) ∧ (12 : Int) ≤ 2147483647 from by decide), ?_⟩
  refine List.forall_mem_cons.mpr ⟨fun k => (show (-2147483648 : Int) ≤ (0 : Int) ∧ (100000 : Int) ≤ 2147483647 from by decide), ?_⟩
  refine List.forall_mem_cons.mpr ⟨fun k => (show (-2147483648 : Int) ≤ (0 : Int) ∧ (9 : Int) ≤ 2147483647 from by decide), ?_⟩
  refine List.forall_mem_cons.mpr ⟨fun k => (show (-2147483648 : Int) ≤ (-2147483648 : Int) ∧ (2147483647 : Int) ≤ 2147483647 from by decide), ?_⟩
  refine List.forall_mem_cons.mpr ⟨fun k => (show (-2147483648 : Int) ≤ (-2147483648 : Int) ∧ (2147483647 : Int) ≤ 2147483647 from by decide), ?_⟩
  refine List.forall_mem_cons.mpr ⟨fun k => (show (-2147483648 : Int) ≤ (-2147483648 : Int) ∧ (2147483647 : Int) ≤ 2147483647 from by decide), ?_⟩
  refine List.forall_mem_cons.mpr ⟨fun k => (show (-2147483648 : Int) ≤ (0 : Int) ∧ (8 : Int) ≤ 2147483647 from by decide), ?_⟩
  refine List.forall_mem_cons.mpr ⟨fun k => (show (-2147483648 : Int) ≤ (-2147483648 : Int) ∧ (2147483647 : Int) ≤ 2147483647 from by decide), ?_⟩
  refine List.forall_mem_cons.mpr ⟨fun k => (show (-2147483648 : Int) ≤ (0 : Int) ∧ (24 : Int) ≤ 2147483647 from by decide), ?_⟩
  refine List.forall_mem_cons.mpr ⟨fun k => (show (-2147483648 : Int) ≤ (-2147483648 : Int) ∧ (2147483647 : Int) ≤ 2147483647 from by decide), ?_⟩
  refine List.forall_mem_cons.mpr ⟨fun k => (show (-2147483648 : Int) ≤ (-2147483648 : Int) ∧ (2147483647 : Int) ≤ 2147483647 from by decide), ?_⟩
  refine List.forall_mem_cons.mpr ⟨fun k => (show (-2147483648 : Int) ≤ (-2147483648 : Int) ∧ (2147483647 : Int) ≤ 2147483647 from by decide), ?_⟩
  refine List.forall_mem_cons.mpr ⟨fun k => (show (-2147483648 : Int) ≤ (-2147483648 : Int) ∧ (2147483647 : Int) ≤ 2147483647 from by decide), ?_⟩
  refine List.forall_mem_cons.mpr ⟨fun k => (show (-2147483648 : Int) ≤ (0 : Int) ∧ (24 : Int) ≤ 2147483647 from by decide), ?_⟩
  refine List.forall_mem_cons.mpr ⟨fun k => (show (-2147483648 : Int) ≤ (-2147483648 : Int) ∧ (2147483647 : Int) ≤ 2147483647 from by decide), ?_⟩
  refine List.forall_mem_cons.mpr ⟨fun k => (show (-2147483648 : Int) ≤ (0 : Int) ∧ (24 : Int) ≤ 2147483647 from by decide), ?_⟩
  refine List.forall_mem_cons.mpr ⟨fun k => (show (-2147483648 : Int) ≤ (-2147483648 : Int) ∧ (2147483647 : Int) ≤ 2147483647 from by decide), ?_⟩
  refine List.forall_mem_cons.mpr ⟨fun k => (show (-2147483648 : Int) ≤ (0 : Int) ∧ (268435456 : Int) ≤ 2147483647 from by decide), ?_⟩
  refine List.forall_mem_cons.mpr ⟨fun k => (show (-2147483648 : Int) ≤ (0 : Int) ∧ (63 : Int) ≤ 2147483647 from by decide), ?_⟩
  refine List.forall_mem_cons.mpr ⟨fun k => (show (-2147483648 : Int) ≤ (-2147483648 : Int) ∧ (2147483647 : Int) ≤ 2147483647 from by decide), ?_⟩
  refine List.forall_mem_cons.mpr ⟨fun k => (show (-2147483648 : Int) ≤ (-2147483648 : Int) ∧ (2147483647 : Int) ≤ 2147483647 from by decide), ?_⟩
  refine List.forall_mem_cons.mpr ⟨fun k => (show (-2147483648 : Int) ≤ (-2147483648 : Int) ∧ (2147483647 : Int) ≤ 2147483647 from by decide), ?_⟩
  refine List.forall_mem_cons.mpr ⟨fun k => (show (-2147483648 : Int) ≤ (-2147483648 : Int) ∧ (2147483647 : Int) ≤ 2147483647 from by decide), ?_⟩
  exact fun _ h => absurd h List.not_mem_nil
theorem cbt_ok (q k : Nat) : -2147483648 ≤ (cbt q k).1 ∧ (cbt q k).2 ≤ 2147483647 := by
  unfold cbt
  rw [List.getD_eq_getElem?_getD]
  cases e : cbL[q]? with
  | none => exact ⟨show (-2147483648 : Int) ≤ -2147483648 by decide, show (2147483647 : Int) ≤ 2147483647 by decide⟩
  | some f => exact cbL_ok f (List.mem_of_getElem? e) k
def BN (w : zW) (M : zM) : Prop := ∀ j k, (cbt (zcd w j) k).1 ≤ M j k ∧ M j k ≤ (cbt (zcd w j) k).2
theorem BN.at {w : zW} {M : zM} (h : BN w M) {j k q : Nat} {lo hi : Int} (hc : zcd w j = q) (e : cbt q k = (lo, hi)) : lo ≤ M j k ∧ M j k ≤ hi := by
  have h1 := h j k
  rw [hc, e] at h1
  exact h1
theorem BN.up {w : zW} {M : zM} (h : BN w M) {j k q : Nat} {lo hi v : Int} (hc : zcd w j = q) (e : cbt q k = (lo, hi)) (h1 : lo ≤ v) (h2 : v ≤ hi) : BN w (zup M j k v) := by
  intro a b
  by_cases hab : a = j ∧ b = k
  · obtain ⟨rfl, rfl⟩ := hab
    rw [zup_s, hc, e]
    exact ⟨h1, h2⟩
  · rw [zup_n M v hab]
    exact h a b
theorem BN.cp {w : zW} {M : zM} (h : BN w M) {j0 j1 sp dp n q : Nat} (hc : zcd w j1 = q) (e : ∀ k, cbt q k = (-2147483648, 2147483647)) (h0 : ∀ k, -2147483648 ≤ M j0 k ∧ M j0 k ≤ 2147483647) : BN w (zcp M j0 j1 sp dp n) := by
  intro a b
  unfold zcp
  by_cases hab : a = j1 ∧ dp ≤ b ∧ b < dp + n
  · rw [if_pos hab]
    obtain ⟨rfl, -⟩ := hab
    rw [hc, e]
    exact h0 _
  · rw [if_neg hab]
    exact h a b
theorem zcp_row {M : zM} {j0 j1 sp dp n a : Nat} (h : a ≠ j1) : zcp M j0 j1 sp dp n a = M a := by
  funext b
  unfold zcp
  rw [if_neg (fun q => h q.1)]
/-- the model's: and rings are not empty -/
def BI (M : zM) : Prop := BN wR M ∧ ∀ k : Nat, k < 4 → (k : Int) < M 0 10 → 1 ≤ M 4 k
theorem BI.up {M : zM} (h : BI M) {j k q : Nat} {lo hi v : Int} (hc : zcd wR j = q) (e : cbt q k = (lo, hi)) (h1 : lo ≤ v) (h2 : v ≤ hi) (hj : j ≠ 4 ∧ j ≠ 0) : BI (zup M j k v) := by
  refine ⟨h.1.up hc e h1 h2, fun i hi hr => ?_⟩
  rw [zup_n M v (fun q => hj.2 q.1.symm)] at hr
  rw [zup_n M v (fun q => hj.1 q.1.symm)]
  exact h.2 i hi hr
theorem BI.up0 {M : zM} (h : BI M) {k : Nat} {lo hi v : Int} (e : cbt 50 k = (lo, hi)) (h1 : lo ≤ v) (h2 : v ≤ hi) (hk : k ≠ 10) : BI (zup M 0 k v) := by
  refine ⟨h.1.up (rfl : zcd wR 0 = 50) e h1 h2, fun i hi hr => ?_⟩
  rw [zup_n M v (fun q => hk q.2.symm)] at hr
  rw [zup_n M v (fun q => absurd q.1 (by decide))]
  exact h.2 i hi hr
theorem BI.up4 {M : zM} (h : BI M) {k : Nat} {v : Int} (h1 : 1 ≤ v) (h2 : v ≤ 24) : BI (zup M 4 k v) := by
  refine ⟨h.1.up (rfl : zcd wR 4 = 54) (rfl : cbt 54 k = (0, 24)) (by omega) h2, fun i hi hr => ?_⟩
  rw [zup_n M v (fun q => absurd q.1 (by decide))] at hr
  by_cases hk : i = k
  · subst hk
    rw [zup_s]
    exact h1
  · rw [zup_n M v (fun q => hk q.2)]
    exact h.2 i hi hr
theorem BI.up10 {M : zM} (h : BI M) {v : Int} (h1 : v ≤ 0) (h2 : 0 ≤ v) : BI (zup M 0 10 v) := by
  refine ⟨h.1.up (rfl : zcd wR 0 = 50) (rfl : cbt 50 10 = (0, 4)) h2 (by omega), fun i hi hr => ?_⟩
  rw [zup_s] at hr
  omega
theorem BI.upR {M : zM} (h : BI M) {v : Int} (hv : v = M 0 10 + 1) (h4 : v ≤ 4) (h1 : 1 ≤ M 4 (M 0 10).toNat) : BI (zup M 0 10 v) := by
  have b : 0 ≤ M 0 10 ∧ M 0 10 ≤ 4 := BN.at h.1 (rfl : zcd wR 0 = 50) rfl
  refine ⟨h.1.up (rfl : zcd wR 0 = 50) (rfl : cbt 50 10 = (0, 4)) (by omega) h4, fun i hi hr => ?_⟩
  rw [zup_s] at hr
  rw [zup_n M v (fun q => absurd q.1 (by decide))]
  by_cases hk : (i : Int) < M 0 10
  · exact h.2 i hi hk
  · rw [show i = (M 0 10).toNat by omega]
    exact h1
theorem tmodN (x y : Int) (h1 : 0 ≤ x) (h2 : 1 ≤ y) : 0 ≤ x.tmod y ∧ x.tmod y < y := by
  rw [Int.tmod_eq_emod_of_nonneg h1]
  exact ⟨Int.emod_nonneg x (by omega), Int.emod_lt_of_pos x (by omega)⟩
theorem emB (x y : Int) (h : 0 < y) : 0 ≤ x % y ∧ x % y < y := ⟨Int.emod_nonneg x (by omega), Int.emod_lt_of_pos x h⟩
theorem tdivB (x y : Int) (h1 : 0 ≤ x) (h2 : 1 ≤ y) : 0 ≤ x.tdiv y ∧ x.tdiv y ≤ x := by
  rw [Int.tdiv_eq_ediv_of_nonneg h1]
  exact ⟨Int.ediv_nonneg h1 (by omega), Int.ediv_le_self y h1⟩
theorem absI_b (x : Int) : 0 ≤ absI x ∧ (absI x = x ∨ absI x = -x) := by
  unfold absI
  split <;> omega
theorem mulB (a b x y : Int) (h1 : 0 ≤ x) (h2 : x ≤ a) (h3 : 0 ≤ y) (h4 : y ≤ b) : 0 ≤ x * y ∧ x * y ≤ a * b := ⟨Int.mul_nonneg h1 h3, Int.mul_le_mul h2 h4 h3 (Int.le_trans h1 h2)⟩
theorem andI_br (x : Int) {c : Int} (h1 : 0 ≤ c) (h2 : c ≤ 2147483647) : 0 ≤ andI x c ∧ andI x c ≤ c := zand_r (x := x) h1 h2 (andI_R x c) (by unfold andI; rw [iI_e])
theorem shl1_b (n : Int) (h1 : 0 ≤ n) (h2 : n ≤ 6) : 1 ≤ shlI 1 n ∧ shlI 1 n ≤ 64 := by
  have h : n = 0 ∨ n = 1 ∨ n = 2 ∨ n = 3 ∨ n = 4 ∨ n = 5 ∨ n = 6 := by omega
  rcases h with rfl | rfl | rfl | rfl | rfl | rfl | rfl <;> decide
theorem BN.r32 {w : zW} {M : zM} (h : BN w M) (j k : Nat) : -2147483648 ≤ M j k ∧ M j k ≤ 2147483647 := by
  have h1 := h j k
  have h2 := cbt_ok (zcd w j) k
  omega
theorem iI_nat {x : Int} (h0 : 0 ≤ x) (h1 : x ≤ 2147483647) : (iI x).toBitVec.toNat = x.toNat := by
  have ht : (iI x).toInt = x := iI_t ⟨by omega, h1⟩
  have h3 : (iI x).toBitVec.toInt = x := ht
  rw [BitVec.toInt_eq_toNat_cond] at h3
  split at h3
  · omega
  · have := (iI x).toBitVec.isLt
    omega
theorem i32_nat {a : Int32} {n : Nat} (h : a.toBitVec.toNat = n) (hn : n ≤ 2147483647) : a.toInt = n := by
  show a.toBitVec.toInt = n
  rw [BitVec.toInt_eq_toNat_cond, h]
  split
  · rfl
  · omega
theorem orI_nat {x y : Int} (hx : 0 ≤ x) (hx2 : x ≤ 2147483647) (hy : 0 ≤ y) (hy2 : y ≤ 2147483647) : orI x y = ((x.toNat ||| y.toNat : Nat) : Int) := by
  unfold orI
  refine i32_nat ?_ ?_
  · rw [Int32.toBitVec_or, BitVec.toNat_or, iI_nat hx hx2, iI_nat hy hy2]
  · have h : x.toNat ||| y.toNat < 2 ^ 31 := Nat.or_lt_two_pow (by omega) (by omega)
    omega
theorem or64 (x y : Int) (h1 : 0 ≤ x) (h2 : x ≤ 63) (h3 : 0 ≤ y) (h4 : y ≤ 63) : 0 ≤ orI x y ∧ orI x y ≤ 63 := by
  rw [orI_nat h1 (by omega) h3 (by omega)]
  have h : x.toNat ||| y.toNat < 2 ^ 6 := Nat.or_lt_two_pow (by omega) (by omega)
  omega
theorem andI_le (x y : Int) (h1 : 0 ≤ x) (h2 : x ≤ 2147483647) : 0 ≤ andI x y ∧ andI x y ≤ x := by
  have h : (iI x &&& iI y).toBitVec.toNat ≤ x.toNat := by
    rw [Int32.toBitVec_and, BitVec.toNat_and, iI_nat h1 h2]
    exact Nat.and_le_left
  have h5 := i32_nat (a := iI x &&& iI y) rfl (by omega)
  unfold andI
  omega
theorem shl01 (b n : Int) (h1 : 0 ≤ b) (h2 : b ≤ 1) (h3 : 0 ≤ n) (h4 : n ≤ 5) : 0 ≤ shlI b n ∧ shlI b n ≤ 32 := by
  have hb : b = 0 ∨ b = 1 := by omega
  have h : n = 0 ∨ n = 1 ∨ n = 2 ∨ n = 3 ∨ n = 4 ∨ n = 5 := by omega
  rcases hb with rfl | rfl <;> rcases h with rfl | rfl | rfl | rfl | rfl | rfl <;> decide
theorem tmodB (x y : Int) (h : 0 < y) : -y < x.tmod y ∧ x.tmod y < y := by
  have h1 := Int.natAbs_tmod x y
  have h2 := Nat.mod_lt x.natAbs (show y.natAbs > 0 by omega)
  omega
end zz29_sbase
section zz30_C00
/-! safety of the class, 0 -/
set_option maxHeartbeats 4000000 in
set_option maxRecDepth 100000 in
theorem sC_Splicer_add {M : zM} {a0 : Int} (hB : BN wC M) (v0 : (-2147483648) ≤ a0 ∧ a0 ≤ 2147483647) {Q : Int → zM → Prop} (hQ : ∀ (z : Int) (M1 : zM), BN wC M1 ∧ (∀ j9 : Nat, ¬ (1 ≤ j9 ∧ j9 ≤ 29) → M1 j9 = M j9) ∧ ((-2147483648) ≤ z ∧ z ≤ 2147483647) ∧ ((M 1 1 ≤ 96 ∧ z = M 1 1 + 4 ∧ M1 1 1 = M 1 1 + 4) ∨ (96 < M 1 1 ∧ z = -1 ∧ M1 1 1 = M 1 1)) ∧ True → Q z M1) : wC_Splicer_add a0 M Q := by
  unfold wC_Splicer_add
  have hF0 : ∀ j9 : Nat, ¬ (1 ≤ j9 ∧ j9 ≤ 29) → M j9 = M j9 := fun j9 _ => rfl
  have q1 : 0 ≤ (M 1 1) ∧ (M 1 1) ≤ 100 := BN.at hB (rfl : zcd wC 1 = 1) rfl
  have s2 : sI ((M 1 1) + 4) = ((M 1 1) + 4) := sIo (by omega) (by omega)
  refine ⟨fun c3 => ?_, fun c3 => ?_⟩
  · skip
    refine wL1_of (fun x4 M5 => BN wC M5 ∧ (∀ j9 : Nat, ¬ (1 ≤ j9 ∧ j9 ≤ 29) → M5 j9 = M j9) ∧ ((-8) ≤ x4 ∧ x4 ≤ 24) ∧ (8 * M5 1 1 = 8 * M 1 1 + 24 - x4) ∧ True) (fun x4 M5 => (x4 + 1).toNat) ⟨hB, hF0, (by omega), (by omega), trivial⟩ (fun K x4 M5 h10 k11 => ?_)
    obtain ⟨hB6, hF7, i8, i9, -⟩ := h10
    have s12 : sI x4 = x4 := sIo (by omega) (by omega)
    refine ⟨fun c13 => ?_, fun c13 => ?_⟩
    · skip
      have q14 : 0 ≤ (M5 1 1) ∧ (M5 1 1) ≤ 100 := BN.at hB6 (rfl : zcd wC 1 = 1) rfl
      have s15 : sI (M5 1 1) = (M5 1 1) := sIo (by omega) (by omega)
      exact hQ _ _ ⟨hB6, hF7, (by omega), (by omega), trivial⟩
    · skip
      have q16 : 0 ≤ (M5 1 1) ∧ (M5 1 1) ≤ 100 := BN.at hB6 (rfl : zcd wC 1 = 1) rfl
      have q17 := ushrI_R a0 x4
      have q18 := andI_br (ushrI a0 x4) (c := 255) (by decide) (by decide)
      have s19 : sI (M5 1 1) = (M5 1 1) := sIo (by omega) (by omega)
      have o20 : 0 ≤ (sI (M5 1 1)) ∧ (sI (M5 1 1)) < 100 := by omega
      refine ⟨o20, ?_⟩
      intro M21 e22
      have hB23 : BN wC M21 := by rw [e22]; exact BN.up hB6 (rfl : zcd wC 2 = 2) rfl (by omega) (by omega)
      have hF24 : ∀ j9 : Nat, ¬ (1 ≤ j9 ∧ j9 ≤ 29) → M21 j9 = M j9 := fun j9 h9 => by rw [e22]; exact (zup_row _ _ (by omega)).trans (hF7 j9 h9)
      have r25 : M21 1 1 = M5 1 1 := by rw [e22]; exact zup_n _ _ (by omega)
      have q26 : 0 ≤ (M21 1 1) ∧ (M21 1 1) ≤ 100 := BN.at hB23 (rfl : zcd wC 1 = 1) rfl
      intro M27 e28
      have hB29 : BN wC M27 := by rw [e28]; exact BN.up hB23 (rfl : zcd wC 1 = 1) rfl (by omega) (by omega)
      have hF30 : ∀ j9 : Nat, ¬ (1 ≤ j9 ∧ j9 ≤ 29) → M27 j9 = M j9 := fun j9 h9 => by rw [e28]; exact (zup_row _ _ (by omega)).trans (hF24 j9 h9)
      have r31 : M27 1 1 = ((M21 1 1) + 1) := by rw [e28]; exact zup_s _ _ _ _
      exact k11 _ _ ⟨hB29, hF30, (by omega), (by omega), trivial⟩ (by omega)
  · skip
    exact hQ _ _ ⟨hB, hF0, (by omega), (by omega), trivial⟩
set_option maxHeartbeats 4000000 in
set_option maxRecDepth 100000 in
theorem sC_sign {M : zM} {a0 : Int} (hB : BN wC M) (v0 : (-2147483648) ≤ a0 ∧ a0 ≤ 2147483647) {Q : Int → zM → Prop} (hQ : ∀ (z : Int) (M1 : zM), BN wC M1 ∧ (∀ j9 : Nat, ¬ (1 ≤ j9 ∧ j9 ≤ 29) → M1 j9 = M j9) ∧ ((-2147483648) ≤ z ∧ z ≤ 2147483647) ∧ ((M 1 1 ≤ 96 ∧ z = M 1 1 + 4 ∧ M1 1 1 = M 1 1 + 4) ∨ (96 < M 1 1 ∧ z = -1 ∧ M1 1 1 = M 1 1)) ∧ True → Q z M1) : wC_sign a0 M Q := by
  unfold wC_sign
  have hF0 : ∀ j9 : Nat, ¬ (1 ≤ j9 ∧ j9 ≤ 29) → M j9 = M j9 := fun j9 _ => rfl
  refine sC_Splicer_add hB (by omega) (fun z1 M2 h3 => ?_)
  obtain ⟨hB4, f5, p6, p7, -⟩ := h3
  have hF8 : ∀ j9 : Nat, ¬ (1 ≤ j9 ∧ j9 ≤ 29) → M2 j9 = M j9 := fun j9 h9 => ((f5 j9 (by omega)).trans (hF0 j9 h9))
  exact hQ _ _ ⟨hB4, hF8, (by omega), (by omega), trivial⟩
set_option maxHeartbeats 4000000 in
set_option maxRecDepth 100000 in
theorem sC_Splicer_keepFirst {M : zM} {a0 : Int} (hB : BN wC M) (v0 : (-2147483648) ≤ a0 ∧ a0 ≤ 2147483647) {Q : Int → zM → Prop} (hQ : ∀ (z : Int) (M1 : zM), BN wC M1 ∧ (∀ j9 : Nat, ¬ (1 ≤ j9 ∧ j9 ≤ 29) → M1 j9 = M j9) ∧ (0 ≤ z ∧ z ≤ 1) ∧ ((0 ≤ a0 ∧ a0 ≤ M 1 1 ∧ z = 1 ∧ M1 1 1 = a0) ∨ ((a0 < 0 ∨ M 1 1 < a0) ∧ z = 0 ∧ M1 1 1 = M 1 1)) ∧ True → Q z M1) : wC_Splicer_keepFirst a0 M Q := by
  unfold wC_Splicer_keepFirst
  have hF0 : ∀ j9 : Nat, ¬ (1 ≤ j9 ∧ j9 ≤ 29) → M j9 = M j9 := fun j9 _ => rfl
  have s1 : sI a0 = a0 := sIo (by omega) (by omega)
  refine ⟨fun c2 => ?_, fun c2 => ?_⟩
  · skip
    exact hQ _ _ ⟨hB, hF0, (by omega), (by omega), trivial⟩
  · skip
    have q3 : 0 ≤ (M 1 1) ∧ (M 1 1) ≤ 100 := BN.at hB (rfl : zcd wC 1 = 1) rfl
    have s4 : sI (M 1 1) = (M 1 1) := sIo (by omega) (by omega)
    refine ⟨fun c5 => ?_, fun c5 => ?_⟩
    · skip
      intro M6 e7
      have hB8 : BN wC M6 := by rw [e7]; exact BN.up hB (rfl : zcd wC 1 = 1) rfl (by omega) (by omega)
      have hF9 : ∀ j9 : Nat, ¬ (1 ≤ j9 ∧ j9 ≤ 29) → M6 j9 = M j9 := fun j9 h9 => by rw [e7]; exact (zup_row _ _ (by omega)).trans (hF0 j9 h9)
      have r10 : M6 1 1 = a0 := by rw [e7]; exact zup_s _ _ _ _
      exact hQ _ _ ⟨hB8, hF9, (by omega), (by omega), trivial⟩
    · skip
      exact hQ _ _ ⟨hB, hF0, (by omega), (by omega), trivial⟩
set_option maxHeartbeats 4000000 in
set_option maxRecDepth 100000 in
theorem sC_end {M : zM} {a0 : Int} (hB : BN wC M) (v0 : (-2147483648) ≤ a0 ∧ a0 ≤ 2147483647) {Q : Int → zM → Prop} (hQ : ∀ (z : Int) (M1 : zM), BN wC M1 ∧ (∀ j9 : Nat, ¬ (1 ≤ j9 ∧ j9 ≤ 29) → M1 j9 = M j9) ∧ (0 ≤ z ∧ z ≤ 1) ∧ ((0 ≤ a0 ∧ a0 ≤ M 1 1 ∧ z = 1 ∧ M1 1 1 = a0) ∨ ((a0 < 0 ∨ M 1 1 < a0) ∧ z = 0 ∧ M1 1 1 = M 1 1)) ∧ True → Q z M1) : wC_end a0 M Q := by
  unfold wC_end
  have hF0 : ∀ j9 : Nat, ¬ (1 ≤ j9 ∧ j9 ≤ 29) → M j9 = M j9 := fun j9 _ => rfl
  refine sC_Splicer_keepFirst hB (by omega) (fun z1 M2 h3 => ?_)
  obtain ⟨hB4, f5, p6, p7, -⟩ := h3
  have hF8 : ∀ j9 : Nat, ¬ (1 ≤ j9 ∧ j9 ≤ 29) → M2 j9 = M j9 := fun j9 h9 => ((f5 j9 (by omega)).trans (hF0 j9 h9))
  exact hQ _ _ ⟨hB4, hF8, (by omega), (by omega), trivial⟩
set_option maxHeartbeats 4000000 in
set_option maxRecDepth 100000 in
theorem sC_Splicer_isDigit {M : zM} {a0 : Int} {a1 : Int} (hB : BN wC M) (v0 : (-2147483648) ≤ a0 ∧ a0 ≤ 2147483647) (v1 : (-2147483648) ≤ a1 ∧ a1 ≤ 2147483647) {Q : Int → Prop} (hQ : ∀ (z : Int), (0 ≤ z ∧ z ≤ 1) ∧ ((z = 1 ∧ a1 ≤ a0 ∧ a0 ≤ 57) ∨ (z = 0 ∧ ¬ (a1 ≤ a0 ∧ a0 ≤ 57))) ∧ True → Q z) : wC_Splicer_isDigit a0 a1 M Q := by
  unfold wC_Splicer_isDigit
  have s1 : sI a0 = a0 := sIo (by omega) (by omega)
  have s2 : sI a1 = a1 := sIo (by omega) (by omega)
  refine ⟨fun c3 => ?_, fun c3 => ?_⟩
  · skip
    exact hQ _ ⟨(by omega), (by omega), trivial⟩
  · skip
    refine ⟨fun c4 => ?_, fun c4 => ?_⟩
    · skip
      exact hQ _ ⟨(by omega), (by omega), trivial⟩
    · skip
      exact hQ _ ⟨(by omega), (by omega), trivial⟩
set_option maxHeartbeats 4000000 in
set_option maxRecDepth 100000 in
theorem sC_Splicer_behindAtomStart {M : zM} {a0 : Int} (hB : BN wC M) (v0 : (-2147483648) ≤ a0 ∧ a0 ≤ 2147483647) (p0 : 0 ≤ M 1 2) {Q : Int → zM → Prop} (hQ : ∀ (z : Int) (M1 : zM), BN wC M1 ∧ (∀ j9 : Nat, ¬ (j9 = 1) → M1 j9 = M j9) ∧ ((-1) ≤ z ∧ z ≤ 5) ∧ (0 ≤ M1 1 2) ∧ True → Q z M1) : wC_Splicer_behindAtomStart a0 M Q := by
  unfold wC_Splicer_behindAtomStart
  have hF0 : ∀ j9 : Nat, ¬ (j9 = 1) → M j9 = M j9 := fun j9 _ => rfl
  refine sC_Splicer_isDigit hB (by omega) (by omega) (fun z1  h2 => ?_)
  obtain ⟨p3, p4, -⟩ := h2
  refine ⟨fun c5 => ?_, fun c5 => ?_⟩
  · skip
    have s6 : sI a0 = a0 := sIo (by omega) (by omega)
    refine ⟨fun c7 => ?_, fun c7 => ?_⟩
    · skip
      refine ⟨fun c8 => ?_, fun c8 => ?_⟩
      · skip
        exact hQ _ _ ⟨hB, hF0, (by omega), (by omega), trivial⟩
      · skip
        have q9 : (-1) ≤ (M 1 2) ∧ (M 1 2) ≤ 5 := BN.at hB (rfl : zcd wC 1 = 1) rfl
        have s10 : sI (M 1 2) = (M 1 2) := sIo (by omega) (by omega)
        refine ⟨fun c11 => ?_, fun c11 => ?_⟩
        · skip
          exact hQ _ _ ⟨hB, hF0, (by omega), (by omega), trivial⟩
        · skip
          intro M13 e14
          have hB15 : BN wC M13 := by rw [e14]; exact BN.up hB (rfl : zcd wC 1 = 1) rfl (by omega) (by omega)
          have hF16 : ∀ j9 : Nat, ¬ (j9 = 1) → M13 j9 = M j9 := fun j9 h9 => by rw [e14]; exact (zup_row _ _ (by omega)).trans (hF0 j9 h9)
          have r17 : M13 1 2 = ((M 1 2) + 1) := by rw [e14]; exact zup_s _ _ _ _
          exact hQ _ _ ⟨hB15, hF16, (by omega), (by omega), trivial⟩
    · skip
      exact hQ _ _ ⟨hB, hF0, (by omega), (by omega), trivial⟩
  · skip
    exact hQ _ _ ⟨hB, hF0, (by omega), (by omega), trivial⟩
set_option maxHeartbeats 4000000 in
set_option maxRecDepth 100000 in
theorem sC_Splicer_behindTermSign {M : zM} {a0 : Int} (hB : BN wC M) (v0 : (-2147483648) ≤ a0 ∧ a0 ≤ 2147483647) (p0 : 0 ≤ M 1 2) {Q : Int → zM → Prop} (hQ : ∀ (z : Int) (M1 : zM), BN wC M1 ∧ (∀ j9 : Nat, ¬ (j9 = 1) → M1 j9 = M j9) ∧ ((-1) ≤ z ∧ z ≤ 5) ∧ (z = -1 ∨ 0 ≤ M1 1 2) ∧ True → Q z M1) : wC_Splicer_behindTermSign a0 M Q := by
  unfold wC_Splicer_behindTermSign
  have hF0 : ∀ j9 : Nat, ¬ (j9 = 1) → M j9 = M j9 := fun j9 _ => rfl
  have s1 : sI a0 = a0 := sIo (by omega) (by omega)
  refine ⟨fun c2 => ?_, fun c2 => ?_⟩
  · skip
    have q3 : (-1) ≤ (M 1 2) ∧ (M 1 2) ≤ 5 := BN.at hB (rfl : zcd wC 1 = 1) rfl
    intro M4 e5
    have hB6 : BN wC M4 := by rw [e5]; exact BN.up hB (rfl : zcd wC 1 = 1) rfl (by omega) (by omega)
    have hF7 : ∀ j9 : Nat, ¬ (j9 = 1) → M4 j9 = M j9 := fun j9 h9 => by rw [e5]; exact (zup_row _ _ (by omega)).trans (hF0 j9 h9)
    have r8 : M4 1 2 = ((M 1 2) - 1) := by rw [e5]; exact zup_s _ _ _ _
    have q9 : (-1) ≤ (M4 1 2) ∧ (M4 1 2) ≤ 5 := BN.at hB6 (rfl : zcd wC 1 = 1) rfl
    have s10 : sI (M4 1 2) = (M4 1 2) := sIo (by omega) (by omega)
    refine ⟨fun c11 => ?_, fun c11 => ?_⟩
    · skip
      exact hQ _ _ ⟨hB6, hF7, (by omega), (by omega), trivial⟩
    · skip
      exact hQ _ _ ⟨hB6, hF7, (by omega), (by omega), trivial⟩
  refine ⟨fun c12 => ?_, fun c12 => ?_⟩
  · skip
    exact hQ _ _ ⟨hB, hF0, (by omega), (by omega), trivial⟩
  refine ⟨fun c13 => ?_, fun c13 => ?_⟩
  · skip
    exact hQ _ _ ⟨hB, hF0, (by omega), (by omega), trivial⟩
  refine ⟨fun c14 => ?_, fun c14 => ?_⟩
  · skip
    exact hQ _ _ ⟨hB, hF0, (by omega), (by omega), trivial⟩
  refine sC_Splicer_behindAtomStart hB (by omega) (by omega) (fun z15 M16 h17 => ?_)
  obtain ⟨hB18, f19, p20, p21, -⟩ := h17
  have hF22 : ∀ j9 : Nat, ¬ (j9 = 1) → M16 j9 = M j9 := fun j9 h9 => ((f19 j9 (by omega)).trans (hF0 j9 h9))
  exact hQ _ _ ⟨hB18, hF22, (by omega), (by omega), trivial⟩
set_option maxHeartbeats 4000000 in
set_option maxRecDepth 100000 in
theorem sC_Splicer_behind {M : zM} {a0 : Int} {a1 : Int} (hB : BN wC M) (v0 : (-2147483648) ≤ a0 ∧ a0 ≤ 2147483647) (v1 : (-2147483648) ≤ a1 ∧ a1 ≤ 2147483647) (p0 : 0 ≤ M 1 2) {Q : Int → zM → Prop} (hQ : ∀ (z : Int) (M1 : zM), BN wC M1 ∧ (∀ j9 : Nat, ¬ (j9 = 1) → M1 j9 = M j9) ∧ ((-1) ≤ z ∧ z ≤ 5) ∧ (z = -1 ∨ 0 ≤ M1 1 2) ∧ True → Q z M1) : wC_Splicer_behind a0 a1 M Q := by
  unfold wC_Splicer_behind
  have hF0 : ∀ j9 : Nat, ¬ (j9 = 1) → M j9 = M j9 := fun j9 _ => rfl
  have s1 : sI a0 = a0 := sIo (by omega) (by omega)
  refine ⟨fun c2 => ?_, fun c2 => ?_⟩
  · skip
    refine sC_Splicer_behindAtomStart hB (by omega) (by omega) (fun z3 M4 h5 => ?_)
    obtain ⟨hB6, f7, p8, p9, -⟩ := h5
    have hF10 : ∀ j9 : Nat, ¬ (j9 = 1) → M4 j9 = M j9 := fun j9 h9 => ((f7 j9 (by omega)).trans (hF0 j9 h9))
    exact hQ _ _ ⟨hB6, hF10, (by omega), (by omega), trivial⟩
  refine ⟨fun c11 => ?_, fun c11 => ?_⟩
  · skip
    refine sC_Splicer_behindTermSign hB (by omega) (by omega) (fun z12 M13 h14 => ?_)
    obtain ⟨hB15, f16, p17, p18, -⟩ := h14
    have hF19 : ∀ j9 : Nat, ¬ (j9 = 1) → M13 j9 = M j9 := fun j9 h9 => ((f16 j9 (by omega)).trans (hF0 j9 h9))
    exact hQ _ _ ⟨hB15, hF19, (by omega), (by omega), trivial⟩
  refine ⟨fun c20 => ?_, fun c20 => ?_⟩
  · skip
    refine sC_Splicer_isDigit hB (by omega) (by omega) (fun z21  h22 => ?_)
    obtain ⟨p23, p24, -⟩ := h22
    refine ⟨fun c25 => ?_, fun c25 => ?_⟩
    · skip
      exact hQ _ _ ⟨hB, hF0, (by omega), (by omega), trivial⟩
    · skip
      exact hQ _ _ ⟨hB, hF0, (by omega), (by omega), trivial⟩
  refine ⟨fun c26 => ?_, fun c26 => ?_⟩
  · skip
    refine sC_Splicer_isDigit hB (by omega) (by omega) (fun z27  h28 => ?_)
    obtain ⟨p29, p30, -⟩ := h28
    refine ⟨fun c31 => ?_, fun c31 => ?_⟩
    · skip
      exact hQ _ _ ⟨hB, hF0, (by omega), (by omega), trivial⟩
    · skip
      exact hQ _ _ ⟨hB, hF0, (by omega), (by omega), trivial⟩
  refine ⟨fun c32 => ?_, fun c32 => ?_⟩
  · skip
    refine sC_Splicer_isDigit hB (by omega) (by omega) (fun z33  h34 => ?_)
    obtain ⟨p35, p36, -⟩ := h34
    refine ⟨fun c37 => ?_, fun c37 => ?_⟩
    · skip
      exact hQ _ _ ⟨hB, hF0, (by omega), (by omega), trivial⟩
    · skip
      exact hQ _ _ ⟨hB, hF0, (by omega), (by omega), trivial⟩
  refine ⟨fun c38 => ?_, fun c38 => ?_⟩
  · skip
    have s39 : sI a1 = a1 := sIo (by omega) (by omega)
    refine ⟨fun c40 => ?_, fun c40 => ?_⟩
    · skip
      refine sC_Splicer_isDigit hB (by omega) (by omega) (fun z41  h42 => ?_)
      obtain ⟨p43, p44, -⟩ := h42
      refine ⟨fun c45 => ?_, fun c45 => ?_⟩
      · skip
        exact hQ _ _ ⟨hB, hF0, (by omega), (by omega), trivial⟩
      · skip
        exact hQ _ _ ⟨hB, hF0, (by omega), (by omega), trivial⟩
    · skip
      exact hQ _ _ ⟨hB, hF0, (by omega), (by omega), trivial⟩
  refine sC_Splicer_isDigit hB (by omega) (by omega) (fun z46  h47 => ?_)
  obtain ⟨p48, p49, -⟩ := h47
  refine ⟨fun c50 => ?_, fun c50 => ?_⟩
  · skip
    exact hQ _ _ ⟨hB, hF0, (by omega), (by omega), trivial⟩
  · skip
    exact hQ _ _ ⟨hB, hF0, (by omega), (by omega), trivial⟩
set_option maxHeartbeats 4000000 in
set_option maxRecDepth 100000 in
theorem sC_Splicer_firstWrong {M : zM}  (hB : BN wC M)  {Q : Int → zM → Prop} (hQ : ∀ (z : Int) (M1 : zM), BN wC M1 ∧ (∀ j9 : Nat, ¬ (j9 = 1) → M1 j9 = M j9) ∧ ((-1) ≤ z ∧ z ≤ 100) ∧ True → Q z M1) : wC_Splicer_firstWrong  M Q := by
  unfold wC_Splicer_firstWrong
  have hF0 : ∀ j9 : Nat, ¬ (j9 = 1) → M j9 = M j9 := fun j9 _ => rfl
  intro M1 e2
  have hB3 : BN wC M1 := by rw [e2]; exact BN.up hB (rfl : zcd wC 1 = 1) rfl (by omega) (by omega)
  have hF4 : ∀ j9 : Nat, ¬ (j9 = 1) → M1 j9 = M j9 := fun j9 h9 => by rw [e2]; exact (zup_row _ _ (by omega)).trans (hF0 j9 h9)
  have r5 : M1 1 2 = 0 := by rw [e2]; exact zup_s _ _ _ _
  refine wL2_of (fun x6 x7 M8 => BN wC M8 ∧ (∀ j9 : Nat, ¬ (j9 = 1) → M8 j9 = M j9) ∧ ((-1) ≤ x6 ∧ x6 ≤ 5) ∧ (0 ≤ x7 ∧ x7 ≤ 1000000) ∧ (0 ≤ M8 1 2) ∧ True) (fun x6 x7 M8 => (1000000 - x7).toNat) ⟨hB3, hF4, (by omega), (by omega), (by omega), trivial⟩ (fun K x6 x7 M8 h14 k15 => ?_)
  obtain ⟨hB9, hF10, i11, i12, i13, -⟩ := h14
  have q16 : 0 ≤ (M8 1 1) ∧ (M8 1 1) ≤ 100 := BN.at hB9 (rfl : zcd wC 1 = 1) rfl
  have s17 : sI x7 = x7 := sIo (by omega) (by omega)
  have s18 : sI (M8 1 1) = (M8 1 1) := sIo (by omega) (by omega)
  refine pJ0_dup ?_
  refine ⟨fun c19 => ?_, fun c19 => ?_⟩
  · skip
    refine ⟨fun c21 => ?_, fun c21 => ?_⟩
    · skip
      have s22 : sI x6 = x6 := sIo (by omega) (by omega)
      refine ⟨fun c23 => ?_, fun c23 => ?_⟩
      · skip
        exact hQ _ _ ⟨hB9, hF10, (by omega), trivial⟩
      · skip
        have q25 : (-1) ≤ (M8 1 2) ∧ (M8 1 2) ≤ 5 := BN.at hB9 (rfl : zcd wC 1 = 1) rfl
        have s26 : sI (M8 1 2) = (M8 1 2) := sIo (by omega) (by omega)
        refine ⟨fun c27 => ?_, fun c27 => ?_⟩
        · skip
          exact hQ _ _ ⟨hB9, hF10, (by omega), trivial⟩
        · skip
          exact hQ _ _ ⟨hB9, hF10, (by omega), trivial⟩
    · skip
      exact hQ _ _ ⟨hB9, hF10, (by omega), trivial⟩
  · skip
    refine ⟨fun c29 => ?_, fun c29 => ?_⟩
    · skip
      refine ⟨fun c31 => ?_, fun c31 => ?_⟩
      · skip
        have s32 : sI x6 = x6 := sIo (by omega) (by omega)
        refine ⟨fun c33 => ?_, fun c33 => ?_⟩
        · skip
          exact hQ _ _ ⟨hB9, hF10, (by omega), trivial⟩
        · skip
          have q35 : (-1) ≤ (M8 1 2) ∧ (M8 1 2) ≤ 5 := BN.at hB9 (rfl : zcd wC 1 = 1) rfl
          have s36 : sI (M8 1 2) = (M8 1 2) := sIo (by omega) (by omega)
          refine ⟨fun c37 => ?_, fun c37 => ?_⟩
          · skip
            exact hQ _ _ ⟨hB9, hF10, (by omega), trivial⟩
          · skip
            exact hQ _ _ ⟨hB9, hF10, (by omega), trivial⟩
      · skip
        exact hQ _ _ ⟨hB9, hF10, (by omega), trivial⟩
    · skip
      have o39 : 0 ≤ (sI x7) ∧ (sI x7) < 100 := by omega
      refine ⟨o39, ?_⟩
      have q40 : 0 ≤ (M8 2 (sI x7).toNat) ∧ (M8 2 (sI x7).toNat) ≤ 255 := BN.at hB9 (rfl : zcd wC 2 = 2) rfl
      refine sC_Splicer_behind hB9 (by omega) (by omega) (by omega) (fun z41 M42 h43 => ?_)
      obtain ⟨hB44, f45, p46, p47, -⟩ := h43
      have hF48 : ∀ j9 : Nat, ¬ (j9 = 1) → M42 j9 = M j9 := fun j9 h9 => ((f45 j9 (by omega)).trans (hF10 j9 h9))
      refine ⟨fun c49 => ?_, fun c49 => ?_⟩
      · skip
        exact k15 _ _ _ ⟨hB44, hF48, (by omega), (by omega), (by omega), trivial⟩ (by omega)
      · skip
        exact hQ _ _ ⟨hB44, hF48, (by omega), trivial⟩
set_option maxHeartbeats 4000000 in
set_option maxRecDepth 100000 in
theorem sC_Splicer_openRow {M : zM}  (hB : BN wC M) (p0 : 0 ≤ M 1 2) {Q : zM → Prop} (hQ : ∀ (M1 : zM), BN wC M1 ∧ (∀ j9 : Nat, ¬ (1 ≤ j9 ∧ j9 ≤ 29) → M1 j9 = M j9) ∧ (M1 1 2 = M 1 2) ∧ True → Q M1) : wC_Splicer_openRow  M Q := by
  unfold wC_Splicer_openRow
  have hF0 : ∀ j9 : Nat, ¬ (1 ≤ j9 ∧ j9 ≤ 29) → M j9 = M j9 := fun j9 _ => rfl
  have q1 : (-1) ≤ (M 1 2) ∧ (M 1 2) ≤ 5 := BN.at hB (rfl : zcd wC 1 = 1) rfl
  have s2 : sI (M 1 2) = (M 1 2) := sIo (by omega) (by omega)
  have o3 : 0 ≤ (sI (M 1 2)) ∧ (sI (M 1 2)) < 6 := by omega
  refine ⟨o3, ?_⟩
  obtain ⟨lt4, cd5⟩ : (6 + 4 * (sI (M 1 2)).toNat) < nC ∧ zcd wC (6 + 4 * (sI (M 1 2)).toNat) = 6 := (by decide : ∀ k : Nat, k < 6 → (6 + 4 * k) < nC ∧ zcd wC (6 + 4 * k) = 6) (sI (M 1 2)).toNat (by omega)
  obtain ⟨lt6, cd7⟩ := nx_strip (6 + 4 * (sI (M 1 2)).toNat) lt4 cd5
  intro M8 e9
  have hB10 : BN wC M8 := by rw [e9]; exact BN.up hB cd5 rfl (by omega) (by omega)
  have hF11 : ∀ j9 : Nat, ¬ (1 ≤ j9 ∧ j9 ≤ 29) → M8 j9 = M j9 := fun j9 h9 => by rw [e9]; exact (zup_row _ _ (by omega)).trans (hF0 j9 h9)
  have r12 : M8 1 2 = M 1 2 := by rw [e9]; exact zup_n _ _ (by omega)
  have q13 : (-1) ≤ (M8 1 2) ∧ (M8 1 2) ≤ 5 := BN.at hB10 (rfl : zcd wC 1 = 1) rfl
  have s14 : sI (M8 1 2) = (M8 1 2) := sIo (by omega) (by omega)
  have o15 : 0 ≤ (sI (M8 1 2)) ∧ (sI (M8 1 2)) < 6 := by omega
  refine ⟨o15, ?_⟩
  obtain ⟨lt16, cd17⟩ : (8 + 4 * (sI (M8 1 2)).toNat) < nC ∧ zcd wC (8 + 4 * (sI (M8 1 2)).toNat) = 6 := (by decide : ∀ k : Nat, k < 6 → (8 + 4 * k) < nC ∧ zcd wC (8 + 4 * k) = 6) (sI (M8 1 2)).toNat (by omega)
  obtain ⟨lt18, cd19⟩ := nx_strip (8 + 4 * (sI (M8 1 2)).toNat) lt16 cd17
  intro M20 e21
  have hB22 : BN wC M20 := by rw [e21]; exact BN.up hB10 cd17 rfl (by omega) (by omega)
  have hF23 : ∀ j9 : Nat, ¬ (1 ≤ j9 ∧ j9 ≤ 29) → M20 j9 = M j9 := fun j9 h9 => by rw [e21]; exact (zup_row _ _ (by omega)).trans (hF11 j9 h9)
  have r24 : M20 1 2 = M8 1 2 := by rw [e21]; exact zup_n _ _ (by omega)
  have q25 : (-1) ≤ (M20 1 2) ∧ (M20 1 2) ≤ 5 := BN.at hB22 (rfl : zcd wC 1 = 1) rfl
  have s26 : sI (M20 1 2) = (M20 1 2) := sIo (by omega) (by omega)
  have o27 : 0 ≤ (sI (M20 1 2)) ∧ (sI (M20 1 2)) < 6 := by omega
  refine ⟨o27, ?_⟩
  intro M28 e29
  have hB30 : BN wC M28 := by rw [e29]; exact BN.up hB22 (rfl : zcd wC 5 = 5) rfl (by omega) (by omega)
  have hF31 : ∀ j9 : Nat, ¬ (1 ≤ j9 ∧ j9 ≤ 29) → M28 j9 = M j9 := fun j9 h9 => by rw [e29]; exact (zup_row _ _ (by omega)).trans (hF23 j9 h9)
  have r32 : M28 1 2 = M20 1 2 := by rw [e29]; exact zup_n _ _ (by omega)
  exact hQ _ ⟨hB30, hF31, (by omega), trivial⟩
set_option maxHeartbeats 4000000 in
set_option maxRecDepth 100000 in
theorem sC_Strip_repeat {M : zM} {j : Nat} {a0 : Int} (hB : BN wC M) (lt_j : j < nC) (cd_j : zcd wC j = 6) (v0 : 0 ≤ a0 ∧ a0 ≤ 9) {Q : zM → Prop} (hQ : ∀ (M1 : zM), BN wC M1 ∧ (∀ j9 : Nat, ¬ (j9 = j ∨ j9 = j + 1) → M1 j9 = M j9) ∧ True → Q M1) : wC_Strip_repeat j a0 M Q := by
  unfold wC_Strip_repeat
  have hF0 : ∀ j9 : Nat, ¬ (j9 = j ∨ j9 = j + 1) → M j9 = M j9 := fun j9 _ => rfl
  obtain ⟨lt1, cd2⟩ := nx_strip j lt_j cd_j
  have q3 : 0 ≤ (M j 1) ∧ (M j 1) ≤ 24 := BN.at hB cd_j rfl
  have q4 := mulB 24 9 (M j 1) a0 (by omega) (by omega) (by omega) (by omega)
  have s5 : sI ((M j 1) * a0) = ((M j 1) * a0) := sIo (by omega) (by omega)
  refine wL1_of (fun x7 M8 => BN wC M8 ∧ (∀ j9 : Nat, ¬ (j9 = j ∨ j9 = j + 1) → M8 j9 = M j9) ∧ (0 ≤ x7 ∧ x7 ≤ 1000000) ∧ (M8 j 1 = M j 1) ∧ (M j 1 ≤ x7) ∧ True) (fun x7 M8 => (1000000 - x7).toNat) ⟨hB, hF0, (by omega), (by omega), (by omega), trivial⟩ (fun K x7 M8 h14 k15 => ?_)
  obtain ⟨hB9, hF10, i11, i12, i13, -⟩ := h14
  have s16 : sI x7 = x7 := sIo (by omega) (by omega)
  refine ⟨fun c17 => ?_, fun c17 => ?_⟩
  · skip
    intro M18 e19
    have hB20 : BN wC M18 := by rw [e19]; exact BN.up hB9 cd_j rfl (by omega) (by omega)
    have hF21 : ∀ j9 : Nat, ¬ (j9 = j ∨ j9 = j + 1) → M18 j9 = M j9 := fun j9 h9 => by rw [e19]; exact (zup_row _ _ (by omega)).trans (hF10 j9 h9)
    have r22 : M18 j 1 = (min (sI ((M j 1) * a0)) 24) := by rw [e19]; exact zup_s _ _ _ _
    exact hQ _ ⟨hB20, hF21, trivial⟩
  · skip
    have q23 : 0 ≤ (M8 j 1) ∧ (M8 j 1) ≤ 24 := BN.at hB9 cd_j rfl
    have s24 : sI (x7 - (M8 j 1)) = (x7 - (M8 j 1)) := sIo (by omega) (by omega)
    have o25 : 0 ≤ (sI (x7 - (M8 j 1))) ∧ (sI (x7 - (M8 j 1))) < 24 := by omega
    refine ⟨o25, ?_⟩
    have q26 : (-2147483648) ≤ (M8 (j + 1) (sI (x7 - (M8 j 1))).toNat) ∧ (M8 (j + 1) (sI (x7 - (M8 j 1))).toNat) ≤ 2147483647 := BN.at hB9 cd2 rfl
    have o27 : 0 ≤ (sI x7) ∧ (sI x7) < 24 := by omega
    refine ⟨o27, ?_⟩
    intro M28 e29
    have hB30 : BN wC M28 := by rw [e29]; exact BN.up hB9 cd2 rfl (by omega) (by omega)
    have hF31 : ∀ j9 : Nat, ¬ (j9 = j ∨ j9 = j + 1) → M28 j9 = M j9 := fun j9 h9 => by rw [e29]; exact (zup_row _ _ (by omega)).trans (hF10 j9 h9)
    have r32 : M28 j 1 = M8 j 1 := by rw [e29]; exact zup_n _ _ (by omega)
    exact k15 _ _ ⟨hB30, hF31, (by omega), (by omega), (by omega), trivial⟩ (by omega)
set_option maxHeartbeats 4000000 in
set_option maxRecDepth 100000 in
theorem sC_Splicer_repeatTerm {M : zM} {a0 : Int} (hB : BN wC M) (v0 : 0 ≤ a0 ∧ a0 ≤ 9) (p0 : 0 ≤ M 1 2) {Q : Int → zM → Prop} (hQ : ∀ (z : Int) (M1 : zM), BN wC M1 ∧ (∀ j9 : Nat, ¬ (1 ≤ j9 ∧ j9 ≤ 29) → M1 j9 = M j9) ∧ ((-101) ≤ z ∧ z ≤ 0) ∧ (M1 1 2 = M 1 2) ∧ True → Q z M1) : wC_Splicer_repeatTerm a0 M Q := by
  unfold wC_Splicer_repeatTerm
  have hF0 : ∀ j9 : Nat, ¬ (1 ≤ j9 ∧ j9 ≤ 29) → M j9 = M j9 := fun j9 _ => rfl
  have q1 : (-1) ≤ (M 1 2) ∧ (M 1 2) ≤ 5 := BN.at hB (rfl : zcd wC 1 = 1) rfl
  have s2 : sI (M 1 2) = (M 1 2) := sIo (by omega) (by omega)
  have o3 : 0 ≤ (sI (M 1 2)) ∧ (sI (M 1 2)) < 6 := by omega
  refine ⟨o3, ?_⟩
  obtain ⟨lt4, cd5⟩ : (8 + 4 * (sI (M 1 2)).toNat) < nC ∧ zcd wC (8 + 4 * (sI (M 1 2)).toNat) = 6 := (by decide : ∀ k : Nat, k < 6 → (8 + 4 * k) < nC ∧ zcd wC (8 + 4 * k) = 6) (sI (M 1 2)).toNat (by omega)
  obtain ⟨lt6, cd7⟩ := nx_strip (8 + 4 * (sI (M 1 2)).toNat) lt4 cd5
  have q8 : 0 ≤ (M (8 + 4 * (sI (M 1 2)).toNat) 1) ∧ (M (8 + 4 * (sI (M 1 2)).toNat) 1) ≤ 24 := BN.at hB cd5 rfl
  have q9 := mulB 24 9 (M (8 + 4 * (sI (M 1 2)).toNat) 1) a0 (by omega) (by omega) (by omega) (by omega)
  have s10 : sI ((M (8 + 4 * (sI (M 1 2)).toNat) 1) * a0) = ((M (8 + 4 * (sI (M 1 2)).toNat) 1) * a0) := sIo (by omega) (by omega)
  refine ⟨fun c11 => ?_, fun c11 => ?_⟩
  · skip
    have o13 : 0 ≤ (sI (M 1 2)) ∧ (sI (M 1 2)) < 6 := by omega
    refine ⟨o13, ?_⟩
    refine sC_Strip_repeat hB lt4 cd5 (by omega) (fun  M14 h15 => ?_)
    obtain ⟨hB16, f17, -⟩ := h15
    have hF18 : ∀ j9 : Nat, ¬ (1 ≤ j9 ∧ j9 ≤ 29) → M14 j9 = M j9 := fun j9 h9 => ((f17 j9 (by omega)).trans (hF0 j9 h9))
    have r19 : M14 1 2 = M 1 2 := congrFun (f17 1 (by omega)) 2
    exact hQ _ _ ⟨hB16, hF18, (by omega), (by omega), trivial⟩
  · skip
    exact hQ _ _ ⟨hB, hF0, (by omega), (by omega), trivial⟩
set_option maxHeartbeats 4000000 in
set_option maxRecDepth 100000 in
theorem sC_Strip_has {M : zM} {j : Nat} {a0 : Int} (hB : BN wC M) (lt_j : j < nC) (cd_j : zcd wC j = 6) (v0 : (-2147483648) ≤ a0 ∧ a0 ≤ 2147483647) {Q : Int → Prop} (hQ : ∀ (z : Int), (0 ≤ z ∧ z ≤ 1) ∧ ((z = 1 ∧ 0 ≤ a0 ∧ a0 < M j 1 ∧ a0 < 24) ∨ (z = 0 ∧ ¬ (0 ≤ a0 ∧ a0 < M j 1))) ∧ True → Q z) : wC_Strip_has j a0 M Q := by
  unfold wC_Strip_has
  obtain ⟨lt1, cd2⟩ := nx_strip j lt_j cd_j
  have s3 : sI a0 = a0 := sIo (by omega) (by omega)
  refine ⟨fun c4 => ?_, fun c4 => ?_⟩
  · skip
    exact hQ _ ⟨(by omega), (by omega), trivial⟩
  · skip
    have q5 : 0 ≤ (M j 1) ∧ (M j 1) ≤ 24 := BN.at hB cd_j rfl
    have s6 : sI (M j 1) = (M j 1) := sIo (by omega) (by omega)
    refine ⟨fun c7 => ?_, fun c7 => ?_⟩
    · skip
      exact hQ _ ⟨(by omega), (by omega), trivial⟩
    · skip
      refine ⟨fun c8 => ?_, fun c8 => ?_⟩
      · skip
        exact hQ _ ⟨(by omega), (by omega), trivial⟩
      · skip
        exact hQ _ ⟨(by omega), (by omega), trivial⟩
set_option maxHeartbeats 4000000 in
set_option maxRecDepth 100000 in
theorem sC_Strip_addTo {M : zM} {j : Nat} {a0 : Int} {a1 : Int} (hB : BN wC M) (lt_j : j < nC) (cd_j : zcd wC j = 6) (v0 : (-2147483648) ≤ a0 ∧ a0 ≤ 2147483647) (v1 : (-2147483648) ≤ a1 ∧ a1 ≤ 2147483647) {Q : zM → Prop} (hQ : ∀ (M1 : zM), BN wC M1 ∧ (∀ j9 : Nat, ¬ (j9 = j ∨ j9 = j + 1) → M1 j9 = M j9) ∧ True → Q M1) : wC_Strip_addTo j a0 a1 M Q := by
  unfold wC_Strip_addTo
  have hF0 : ∀ j9 : Nat, ¬ (j9 = j ∨ j9 = j + 1) → M j9 = M j9 := fun j9 _ => rfl
  obtain ⟨lt1, cd2⟩ := nx_strip j lt_j cd_j
  refine sC_Strip_has hB lt_j cd_j (by omega) (fun z3  h4 => ?_)
  obtain ⟨p5, p6, -⟩ := h4
  refine ⟨fun c7 => ?_, fun c7 => ?_⟩
  · skip
    exact hQ _ ⟨hB, hF0, trivial⟩
  · skip
    have s8 : sI a0 = a0 := sIo (by omega) (by omega)
    have o9 : 0 ≤ (sI a0) ∧ (sI a0) < 24 := by omega
    refine ⟨o9, ?_⟩
    have q10 : (-2147483648) ≤ (M (j + 1) (sI a0).toNat) ∧ (M (j + 1) (sI a0).toNat) ≤ 2147483647 := BN.at hB cd2 rfl
    have q11 := orI_R (M (j + 1) (sI a0).toNat) a1
    have o12 : 0 ≤ (sI a0) ∧ (sI a0) < 24 := by omega
    refine ⟨o12, ?_⟩
    intro M13 e14
    have hB15 : BN wC M13 := by rw [e14]; exact BN.up hB cd2 rfl (by omega) (by omega)
    have hF16 : ∀ j9 : Nat, ¬ (j9 = j ∨ j9 = j + 1) → M13 j9 = M j9 := fun j9 h9 => by rw [e14]; exact (zup_row _ _ (by omega)).trans (hF0 j9 h9)
    exact hQ _ ⟨hB15, hF16, trivial⟩
set_option maxHeartbeats 4000000 in
set_option maxRecDepth 100000 in
theorem sC_Strip_putBehind {M : zM} {j : Nat} {a0 : Nat} {a1 : Int} (hB : BN wC M) (lt_j : j < nC) (cd_j : zcd wC j = 6) (lt_a0 : a0 < nC) (cd_a0 : zcd wC a0 = 6) (v1 : 0 ≤ a1 ∧ a1 ≤ 9) {Q : zM → Prop} (hQ : ∀ (M1 : zM), BN wC M1 ∧ (∀ j9 : Nat, ¬ (j9 = j ∨ j9 = j + 1) → M1 j9 = M j9) ∧ True → Q M1) : wC_Strip_putBehind j a0 a1 M Q := by
  unfold wC_Strip_putBehind
  have hF0 : ∀ j9 : Nat, ¬ (j9 = j ∨ j9 = j + 1) → M j9 = M j9 := fun j9 _ => rfl
  obtain ⟨lt1, cd2⟩ := nx_strip j lt_j cd_j
  obtain ⟨lt3, cd4⟩ := nx_strip a0 lt_a0 cd_a0
  have q5 : 0 ≤ (M j 1) ∧ (M j 1) ≤ 24 := BN.at hB cd_j rfl
  have s6 : sI ((M j 1) - a1) = ((M j 1) - a1) := sIo (by omega) (by omega)
  refine wL2_of (fun x7 x8 M9 => BN wC M9 ∧ (∀ j9 : Nat, ¬ (j9 = j ∨ j9 = j + 1) → M9 j9 = M j9) ∧ (0 ≤ x7 ∧ x7 ≤ 24) ∧ (0 ≤ x8 ∧ x8 ≤ 1000000) ∧ True) (fun x7 x8 M9 => (1000000 - x8).toNat) ⟨hB, hF0, (by omega), (by omega), trivial⟩ (fun K x7 x8 M9 h14 k15 => ?_)
  obtain ⟨hB10, hF11, i12, i13, -⟩ := h14
  have q16 : 0 ≤ (M9 a0 1) ∧ (M9 a0 1) ≤ 24 := BN.at hB10 cd_a0 rfl
  have s17 : sI x8 = x8 := sIo (by omega) (by omega)
  have s18 : sI (M9 a0 1) = (M9 a0 1) := sIo (by omega) (by omega)
  refine ⟨fun c19 => ?_, fun c19 => ?_⟩
  · skip
    have q20 : 0 ≤ (M9 j 1) ∧ (M9 j 1) ≤ 24 := BN.at hB10 cd_j rfl
    have s21 : sI x7 = x7 := sIo (by omega) (by omega)
    have s22 : sI (M9 j 1) = (M9 j 1) := sIo (by omega) (by omega)
    intro M23 e24
    have hB25 : BN wC M23 := by rw [e24]; exact BN.up hB10 cd_j rfl (by omega) (by omega)
    have hF26 : ∀ j9 : Nat, ¬ (j9 = j ∨ j9 = j + 1) → M23 j9 = M j9 := fun j9 h9 => by rw [e24]; exact (zup_row _ _ (by omega)).trans (hF11 j9 h9)
    exact hQ _ ⟨hB25, hF26, trivial⟩
  · skip
    have s27 : sI x7 = x7 := sIo (by omega) (by omega)
    refine ⟨fun c28 => ?_, fun c28 => ?_⟩
    · skip
      have q29 : 0 ≤ (M9 j 1) ∧ (M9 j 1) ≤ 24 := BN.at hB10 cd_j rfl
      have s30 : sI (M9 j 1) = (M9 j 1) := sIo (by omega) (by omega)
      intro M31 e32
      have hB33 : BN wC M31 := by rw [e32]; exact BN.up hB10 cd_j rfl (by omega) (by omega)
      have hF34 : ∀ j9 : Nat, ¬ (j9 = j ∨ j9 = j + 1) → M31 j9 = M j9 := fun j9 h9 => by rw [e32]; exact (zup_row _ _ (by omega)).trans (hF11 j9 h9)
      exact hQ _ ⟨hB33, hF34, trivial⟩
    · skip
      have o35 : 0 ≤ (sI x8) ∧ (sI x8) < 24 := by omega
      refine ⟨o35, ?_⟩
      have q36 : (-2147483648) ≤ (M9 (a0 + 1) (sI x8).toNat) ∧ (M9 (a0 + 1) (sI x8).toNat) ≤ 2147483647 := BN.at hB10 cd4 rfl
      have q37 : 0 ≤ (M9 j 1) ∧ (M9 j 1) ≤ 24 := BN.at hB10 cd_j rfl
      have s38 : sI (M9 j 1) = (M9 j 1) := sIo (by omega) (by omega)
      refine ⟨fun c39 => ?_, fun c39 => ?_⟩
      · skip
        have q40 := orI_R (M9 (a0 + 1) (sI x8).toNat) 0
        have o41 : 0 ≤ (sI x7) ∧ (sI x7) < 24 := by omega
        refine ⟨o41, ?_⟩
        intro M42 e43
        have hB44 : BN wC M42 := by rw [e43]; exact BN.up hB10 cd2 rfl (by omega) (by omega)
        have hF45 : ∀ j9 : Nat, ¬ (j9 = j ∨ j9 = j + 1) → M42 j9 = M j9 := fun j9 h9 => by rw [e43]; exact (zup_row _ _ (by omega)).trans (hF11 j9 h9)
        exact k15 _ _ _ ⟨hB44, hF45, (by omega), (by omega), trivial⟩ (by omega)
      · skip
        have o46 : 0 ≤ (sI x7) ∧ (sI x7) < 24 := by omega
        refine ⟨o46, ?_⟩
        have q47 : (-2147483648) ≤ (M9 (j + 1) (sI x7).toNat) ∧ (M9 (j + 1) (sI x7).toNat) ≤ 2147483647 := BN.at hB10 cd2 rfl
        have q48 := orI_R (M9 (a0 + 1) (sI x8).toNat) (M9 (j + 1) (sI x7).toNat)
        have o49 : 0 ≤ (sI x7) ∧ (sI x7) < 24 := by omega
        refine ⟨o49, ?_⟩
        intro M50 e51
        have hB52 : BN wC M50 := by rw [e51]; exact BN.up hB10 cd2 rfl (by omega) (by omega)
        have hF53 : ∀ j9 : Nat, ¬ (j9 = j ∨ j9 = j + 1) → M50 j9 = M j9 := fun j9 h9 => by rw [e51]; exact (zup_row _ _ (by omega)).trans (hF11 j9 h9)
        exact k15 _ _ _ ⟨hB52, hF53, (by omega), (by omega), trivial⟩ (by omega)
set_option maxHeartbeats 4000000 in
set_option maxRecDepth 100000 in
theorem sC_Splicer_layTerm {M : zM}  (hB : BN wC M) (p0 : 0 ≤ M 1 2) {Q : Int → zM → Prop} (hQ : ∀ (z : Int) (M1 : zM), BN wC M1 ∧ (∀ j9 : Nat, ¬ (1 ≤ j9 ∧ j9 ≤ 29) → M1 j9 = M j9) ∧ ((-101) ≤ z ∧ z ≤ 0) ∧ (M1 1 2 = M 1 2) ∧ True → Q z M1) : wC_Splicer_layTerm  M Q := by
  unfold wC_Splicer_layTerm
  have hF0 : ∀ j9 : Nat, ¬ (1 ≤ j9 ∧ j9 ≤ 29) → M j9 = M j9 := fun j9 _ => rfl
  have q1 : (-1) ≤ (M 1 2) ∧ (M 1 2) ≤ 5 := BN.at hB (rfl : zcd wC 1 = 1) rfl
  have s2 : sI (M 1 2) = (M 1 2) := sIo (by omega) (by omega)
  have o3 : 0 ≤ (sI (M 1 2)) ∧ (sI (M 1 2)) < 6 := by omega
  refine ⟨o3, ?_⟩
  obtain ⟨lt4, cd5⟩ : (6 + 4 * (sI (M 1 2)).toNat) < nC ∧ zcd wC (6 + 4 * (sI (M 1 2)).toNat) = 6 := (by decide : ∀ k : Nat, k < 6 → (6 + 4 * k) < nC ∧ zcd wC (6 + 4 * k) = 6) (sI (M 1 2)).toNat (by omega)
  obtain ⟨lt6, cd7⟩ := nx_strip (6 + 4 * (sI (M 1 2)).toNat) lt4 cd5
  have o9 : 0 ≤ (sI (M 1 2)) ∧ (sI (M 1 2)) < 6 := by omega
  refine ⟨o9, ?_⟩
  obtain ⟨lt10, cd11⟩ : (8 + 4 * (sI (M 1 2)).toNat) < nC ∧ zcd wC (8 + 4 * (sI (M 1 2)).toNat) = 6 := (by decide : ∀ k : Nat, k < 6 → (8 + 4 * k) < nC ∧ zcd wC (8 + 4 * k) = 6) (sI (M 1 2)).toNat (by omega)
  obtain ⟨lt12, cd13⟩ := nx_strip (8 + 4 * (sI (M 1 2)).toNat) lt10 cd11
  have q14 : 0 ≤ (M (8 + 4 * (sI (M 1 2)).toNat) 1) ∧ (M (8 + 4 * (sI (M 1 2)).toNat) 1) ≤ 24 := BN.at hB cd11 rfl
  have s15 : sI (M (8 + 4 * (sI (M 1 2)).toNat) 1) = (M (8 + 4 * (sI (M 1 2)).toNat) 1) := sIo (by omega) (by omega)
  refine ⟨fun c16 => ?_, fun c16 => ?_⟩
  · skip
    have o18 : 0 ≤ (sI (M 1 2)) ∧ (sI (M 1 2)) < 6 := by omega
    refine ⟨o18, ?_⟩
    have q19 : 0 ≤ (M 5 (sI (M 1 2)).toNat) ∧ (M 5 (sI (M 1 2)).toNat) ≤ 9 := BN.at hB (rfl : zcd wC 5 = 5) rfl
    have s21 : sI (M 5 (sI (M 1 2)).toNat) = (M 5 (sI (M 1 2)).toNat) := sIo (by omega) (by omega)
    refine ⟨fun c22 => ?_, fun c22 => ?_⟩
    · skip
      have q23 : 0 ≤ (M (6 + 4 * (sI (M 1 2)).toNat) 1) ∧ (M (6 + 4 * (sI (M 1 2)).toNat) 1) ≤ 24 := BN.at hB cd5 rfl
      have s25 : sI (((M (6 + 4 * (sI (M 1 2)).toNat) 1) + (M (8 + 4 * (sI (M 1 2)).toNat) 1)) - (M 5 (sI (M 1 2)).toNat)) = (((M (6 + 4 * (sI (M 1 2)).toNat) 1) + (M (8 + 4 * (sI (M 1 2)).toNat) 1)) - (M 5 (sI (M 1 2)).toNat)) := sIo (by omega) (by omega)
      refine ⟨fun c26 => ?_, fun c26 => ?_⟩
      · skip
        refine sC_Strip_putBehind hB lt4 cd5 lt10 cd11 (by omega) (fun  M27 h28 => ?_)
        obtain ⟨hB29, f30, -⟩ := h28
        have hF31 : ∀ j9 : Nat, ¬ (1 ≤ j9 ∧ j9 ≤ 29) → M27 j9 = M j9 := fun j9 h9 => ((f30 j9 (by omega)).trans (hF0 j9 h9))
        have r32 : M27 1 2 = M 1 2 := congrFun (f30 1 (by omega)) 2
        intro M33 e34
        have hB35 : BN wC M33 := by rw [e34]; exact BN.up hB29 cd11 rfl (by omega) (by omega)
        have hF36 : ∀ j9 : Nat, ¬ (1 ≤ j9 ∧ j9 ≤ 29) → M33 j9 = M j9 := fun j9 h9 => by rw [e34]; exact (zup_row _ _ (by omega)).trans (hF31 j9 h9)
        have r37 : M33 1 2 = M27 1 2 := by rw [e34]; exact zup_n _ _ (by omega)
        have q38 : (-1) ≤ (M33 1 2) ∧ (M33 1 2) ≤ 5 := BN.at hB35 (rfl : zcd wC 1 = 1) rfl
        have s39 : sI (M33 1 2) = (M33 1 2) := sIo (by omega) (by omega)
        have o40 : 0 ≤ (sI (M33 1 2)) ∧ (sI (M33 1 2)) < 6 := by omega
        refine ⟨o40, ?_⟩
        intro M41 e42
        have hB43 : BN wC M41 := by rw [e42]; exact BN.up hB35 (rfl : zcd wC 5 = 5) rfl (by omega) (by omega)
        have hF44 : ∀ j9 : Nat, ¬ (1 ≤ j9 ∧ j9 ≤ 29) → M41 j9 = M j9 := fun j9 h9 => by rw [e42]; exact (zup_row _ _ (by omega)).trans (hF36 j9 h9)
        have r45 : M41 1 2 = M33 1 2 := by rw [e42]; exact zup_n _ _ (by omega)
        exact hQ _ _ ⟨hB43, hF44, (by omega), (by omega), trivial⟩
      · skip
        exact hQ _ _ ⟨hB, hF0, (by omega), (by omega), trivial⟩
    · skip
      exact hQ _ _ ⟨hB, hF0, (by omega), (by omega), trivial⟩
  · skip
    exact hQ _ _ ⟨hB, hF0, (by omega), (by omega), trivial⟩
set_option maxHeartbeats 4000000 in
set_option maxRecDepth 100000 in
theorem sC_Strip_becomeInch {M : zM} {j : Nat} {a0 : Int} (hB : BN wC M) (lt_j : j < nC) (cd_j : zcd wC j = 6) (v0 : (-2147483648) ≤ a0 ∧ a0 ≤ 2147483647) {Q : zM → Prop} (hQ : ∀ (M1 : zM), BN wC M1 ∧ (∀ j9 : Nat, ¬ (j9 = j ∨ j9 = j + 1) → M1 j9 = M j9) ∧ True → Q M1) : wC_Strip_becomeInch j a0 M Q := by
  unfold wC_Strip_becomeInch
  have hF0 : ∀ j9 : Nat, ¬ (j9 = j ∨ j9 = j + 1) → M j9 = M j9 := fun j9 _ => rfl
  obtain ⟨lt1, cd2⟩ := nx_strip j lt_j cd_j
  intro M3 e4
  have hB5 : BN wC M3 := by rw [e4]; exact BN.up hB cd2 rfl (by omega) (by omega)
  have hF6 : ∀ j9 : Nat, ¬ (j9 = j ∨ j9 = j + 1) → M3 j9 = M j9 := fun j9 h9 => by rw [e4]; exact (zup_row _ _ (by omega)).trans (hF0 j9 h9)
  intro M7 e8
  have hB9 : BN wC M7 := by rw [e8]; exact BN.up hB5 cd_j rfl (by omega) (by omega)
  have hF10 : ∀ j9 : Nat, ¬ (j9 = j ∨ j9 = j + 1) → M7 j9 = M j9 := fun j9 h9 => by rw [e8]; exact (zup_row _ _ (by omega)).trans (hF6 j9 h9)
  exact hQ _ ⟨hB9, hF10, trivial⟩
set_option maxHeartbeats 4000000 in
set_option maxRecDepth 100000 in
theorem sC_Splicer_beginTerm {M : zM} {a0 : Int} (hB : BN wC M) (v0 : (-2147483648) ≤ a0 ∧ a0 ≤ 2147483647) (p0 : 0 ≤ M 1 2) {Q : Int → zM → Prop} (hQ : ∀ (z : Int) (M1 : zM), BN wC M1 ∧ (∀ j9 : Nat, ¬ (1 ≤ j9 ∧ j9 ≤ 29) → M1 j9 = M j9) ∧ ((-101) ≤ z ∧ z ≤ 0) ∧ (M1 1 2 = M 1 2) ∧ True → Q z M1) : wC_Splicer_beginTerm a0 M Q := by
  unfold wC_Splicer_beginTerm
  have hF0 : ∀ j9 : Nat, ¬ (1 ≤ j9 ∧ j9 ≤ 29) → M j9 = M j9 := fun j9 _ => rfl
  refine sC_Splicer_layTerm hB (by omega) (fun z1 M2 h3 => ?_)
  obtain ⟨hB4, f5, p6, p7, -⟩ := h3
  have hF8 : ∀ j9 : Nat, ¬ (1 ≤ j9 ∧ j9 ≤ 29) → M2 j9 = M j9 := fun j9 h9 => ((f5 j9 (by omega)).trans (hF0 j9 h9))
  refine ⟨fun c9 => ?_, fun c9 => ?_⟩
  · skip
    exact hQ _ _ ⟨hB4, hF8, (by omega), (by omega), trivial⟩
  · skip
    have q10 : (-1) ≤ (M2 1 2) ∧ (M2 1 2) ≤ 5 := BN.at hB4 (rfl : zcd wC 1 = 1) rfl
    have s11 : sI (M2 1 2) = (M2 1 2) := sIo (by omega) (by omega)
    have o12 : 0 ≤ (sI (M2 1 2)) ∧ (sI (M2 1 2)) < 6 := by omega
    refine ⟨o12, ?_⟩
    obtain ⟨lt13, cd14⟩ : (8 + 4 * (sI (M2 1 2)).toNat) < nC ∧ zcd wC (8 + 4 * (sI (M2 1 2)).toNat) = 6 := (by decide : ∀ k : Nat, k < 6 → (8 + 4 * k) < nC ∧ zcd wC (8 + 4 * k) = 6) (sI (M2 1 2)).toNat (by omega)
    obtain ⟨lt15, cd16⟩ := nx_strip (8 + 4 * (sI (M2 1 2)).toNat) lt13 cd14
    refine sC_Strip_becomeInch hB4 lt13 cd14 (by omega) (fun  M17 h18 => ?_)
    obtain ⟨hB19, f20, -⟩ := h18
    have hF21 : ∀ j9 : Nat, ¬ (1 ≤ j9 ∧ j9 ≤ 29) → M17 j9 = M j9 := fun j9 h9 => ((f20 j9 (by omega)).trans (hF8 j9 h9))
    have r22 : M17 1 2 = M2 1 2 := congrFun (f20 1 (by omega)) 2
    exact hQ _ _ ⟨hB19, hF21, (by omega), (by omega), trivial⟩
set_option maxHeartbeats 4000000 in
set_option maxRecDepth 100000 in
theorem sC_Splicer_readDigit {M : zM} {a0 : Int} (hB : BN wC M) (v0 : 0 ≤ a0 ∧ a0 ≤ 9) (p0 : 0 ≤ M 1 2) {Q : Int → zM → Prop} (hQ : ∀ (z : Int) (M1 : zM), BN wC M1 ∧ (∀ j9 : Nat, ¬ (1 ≤ j9 ∧ j9 ≤ 29) → M1 j9 = M j9) ∧ ((-101) ≤ z ∧ z ≤ 0) ∧ (M1 1 2 = M 1 2) ∧ True → Q z M1) : wC_Splicer_readDigit a0 M Q := by
  unfold wC_Splicer_readDigit
  have hF0 : ∀ j9 : Nat, ¬ (1 ≤ j9 ∧ j9 ≤ 29) → M j9 = M j9 := fun j9 _ => rfl
  have q1 : (-2147483648) ≤ (M 1 3) ∧ (M 1 3) ≤ 2147483647 := BN.at hB (rfl : zcd wC 1 = 1) rfl
  have s2 : sI (M 1 3) = (M 1 3) := sIo (by omega) (by omega)
  refine ⟨fun c3 => ?_, fun c3 => ?_⟩
  · skip
    intro M4 e5
    have hB6 : BN wC M4 := by rw [e5]; exact BN.up hB (rfl : zcd wC 1 = 1) rfl (by omega) (by omega)
    have hF7 : ∀ j9 : Nat, ¬ (1 ≤ j9 ∧ j9 ≤ 29) → M4 j9 = M j9 := fun j9 h9 => by rw [e5]; exact (zup_row _ _ (by omega)).trans (hF0 j9 h9)
    have r8 : M4 1 2 = M 1 2 := by rw [e5]; exact zup_n _ _ (by omega)
    refine sC_Splicer_repeatTerm hB6 (by omega) (by omega) (fun z9 M10 h11 => ?_)
    obtain ⟨hB12, f13, p14, p15, -⟩ := h11
    have hF16 : ∀ j9 : Nat, ¬ (1 ≤ j9 ∧ j9 ≤ 29) → M10 j9 = M j9 := fun j9 h9 => ((f13 j9 (by omega)).trans (hF7 j9 h9))
    exact hQ _ _ ⟨hB12, hF16, (by omega), (by omega), trivial⟩
  refine ⟨fun c17 => ?_, fun c17 => ?_⟩
  · skip
    intro M18 e19
    have hB20 : BN wC M18 := by rw [e19]; exact BN.up hB (rfl : zcd wC 1 = 1) rfl (by omega) (by omega)
    have hF21 : ∀ j9 : Nat, ¬ (1 ≤ j9 ∧ j9 ≤ 29) → M18 j9 = M j9 := fun j9 h9 => by rw [e19]; exact (zup_row _ _ (by omega)).trans (hF0 j9 h9)
    have r22 : M18 1 2 = M 1 2 := by rw [e19]; exact zup_n _ _ (by omega)
    have q23 : (-1) ≤ (M18 1 2) ∧ (M18 1 2) ≤ 5 := BN.at hB20 (rfl : zcd wC 1 = 1) rfl
    have s24 : sI (M18 1 2) = (M18 1 2) := sIo (by omega) (by omega)
    have o25 : 0 ≤ (sI (M18 1 2)) ∧ (sI (M18 1 2)) < 6 := by omega
    refine ⟨o25, ?_⟩
    intro M26 e27
    have hB28 : BN wC M26 := by rw [e27]; exact BN.up hB20 (rfl : zcd wC 5 = 5) rfl (by omega) (by omega)
    have hF29 : ∀ j9 : Nat, ¬ (1 ≤ j9 ∧ j9 ≤ 29) → M26 j9 = M j9 := fun j9 h9 => by rw [e27]; exact (zup_row _ _ (by omega)).trans (hF21 j9 h9)
    have r30 : M26 1 2 = M18 1 2 := by rw [e27]; exact zup_n _ _ (by omega)
    have q31 : (-1) ≤ (M26 1 2) ∧ (M26 1 2) ≤ 5 := BN.at hB28 (rfl : zcd wC 1 = 1) rfl
    have s32 : sI (M26 1 2) = (M26 1 2) := sIo (by omega) (by omega)
    have o33 : 0 ≤ (sI (M26 1 2)) ∧ (sI (M26 1 2)) < 6 := by omega
    refine ⟨o33, ?_⟩
    obtain ⟨lt34, cd35⟩ : (6 + 4 * (sI (M26 1 2)).toNat) < nC ∧ zcd wC (6 + 4 * (sI (M26 1 2)).toNat) = 6 := (by decide : ∀ k : Nat, k < 6 → (6 + 4 * k) < nC ∧ zcd wC (6 + 4 * k) = 6) (sI (M26 1 2)).toNat (by omega)
    obtain ⟨lt36, cd37⟩ := nx_strip (6 + 4 * (sI (M26 1 2)).toNat) lt34 cd35
    have q38 : 0 ≤ (M26 (6 + 4 * (sI (M26 1 2)).toNat) 1) ∧ (M26 (6 + 4 * (sI (M26 1 2)).toNat) 1) ≤ 24 := BN.at hB28 cd35 rfl
    have s39 : sI a0 = a0 := sIo (by omega) (by omega)
    have s40 : sI (M26 (6 + 4 * (sI (M26 1 2)).toNat) 1) = (M26 (6 + 4 * (sI (M26 1 2)).toNat) 1) := sIo (by omega) (by omega)
    refine ⟨fun c41 => ?_, fun c41 => ?_⟩
    · skip
      exact hQ _ _ ⟨hB28, hF29, (by omega), (by omega), trivial⟩
    · skip
      exact hQ _ _ ⟨hB28, hF29, (by omega), (by omega), trivial⟩
  refine ⟨fun c42 => ?_, fun c42 => ?_⟩
  · skip
    have q43 : (-1) ≤ (M 1 2) ∧ (M 1 2) ≤ 5 := BN.at hB (rfl : zcd wC 1 = 1) rfl
    have s44 : sI (M 1 2) = (M 1 2) := sIo (by omega) (by omega)
    have o45 : 0 ≤ (sI (M 1 2)) ∧ (sI (M 1 2)) < 6 := by omega
    refine ⟨o45, ?_⟩
    obtain ⟨lt46, cd47⟩ : (8 + 4 * (sI (M 1 2)).toNat) < nC ∧ zcd wC (8 + 4 * (sI (M 1 2)).toNat) = 6 := (by decide : ∀ k : Nat, k < 6 → (8 + 4 * k) < nC ∧ zcd wC (8 + 4 * k) = 6) (sI (M 1 2)).toNat (by omega)
    obtain ⟨lt48, cd49⟩ := nx_strip (8 + 4 * (sI (M 1 2)).toNat) lt46 cd47
    have q50 := shlI_R 1 a0
    refine sC_Strip_addTo hB lt46 cd47 (by omega) (by omega) (fun  M51 h52 => ?_)
    obtain ⟨hB53, f54, -⟩ := h52
    have hF55 : ∀ j9 : Nat, ¬ (1 ≤ j9 ∧ j9 ≤ 29) → M51 j9 = M j9 := fun j9 h9 => ((f54 j9 (by omega)).trans (hF0 j9 h9))
    have r56 : M51 1 2 = M 1 2 := congrFun (f54 1 (by omega)) 2
    exact hQ _ _ ⟨hB53, hF55, (by omega), (by omega), trivial⟩
  have s57 : sI a0 = a0 := sIo (by omega) (by omega)
  refine ⟨fun c58 => ?_, fun c58 => ?_⟩
  · skip
    have q59 := shlI_R 1 a0
    refine sC_Splicer_beginTerm hB (by omega) (by omega) (fun z60 M61 h62 => ?_)
    obtain ⟨hB63, f64, p65, p66, -⟩ := h62
    have hF67 : ∀ j9 : Nat, ¬ (1 ≤ j9 ∧ j9 ≤ 29) → M61 j9 = M j9 := fun j9 h9 => ((f64 j9 (by omega)).trans (hF0 j9 h9))
    exact hQ _ _ ⟨hB63, hF67, (by omega), (by omega), trivial⟩
  · skip
    refine sC_Splicer_beginTerm hB (by omega) (by omega) (fun z68 M69 h70 => ?_)
    obtain ⟨hB71, f72, p73, p74, -⟩ := h70
    have hF75 : ∀ j9 : Nat, ¬ (1 ≤ j9 ∧ j9 ≤ 29) → M69 j9 = M j9 := fun j9 h9 => ((f72 j9 (by omega)).trans (hF0 j9 h9))
    exact hQ _ _ ⟨hB71, hF75, (by omega), (by omega), trivial⟩
set_option maxHeartbeats 4000000 in
set_option maxRecDepth 100000 in
theorem sC_Strip_turn {M : zM} {j : Nat} (hB : BN wC M) (lt_j : j < nC) (cd_j : zcd wC j = 6) {Q : zM → Prop} (hQ : ∀ (M1 : zM), BN wC M1 ∧ (∀ j9 : Nat, ¬ (j9 = j ∨ j9 = j + 1) → M1 j9 = M j9) ∧ True → Q M1) : wC_Strip_turn j M Q := by
  unfold wC_Strip_turn
  have hF0 : ∀ j9 : Nat, ¬ (j9 = j ∨ j9 = j + 1) → M j9 = M j9 := fun j9 _ => rfl
  obtain ⟨lt1, cd2⟩ := nx_strip j lt_j cd_j
  refine wL1_of (fun x3 M4 => BN wC M4 ∧ (∀ j9 : Nat, ¬ (j9 = j ∨ j9 = j + 1) → M4 j9 = M j9) ∧ (0 ≤ x3 ∧ x3 ≤ 1000000) ∧ True) (fun x3 M4 => (1000000 - x3).toNat) ⟨hB, hF0, (by omega), trivial⟩ (fun K x3 M4 h8 k9 => ?_)
  obtain ⟨hB5, hF6, i7, -⟩ := h8
  have q10 : 0 ≤ (M4 j 1) ∧ (M4 j 1) ≤ 24 := BN.at hB5 cd_j rfl
  have s11 : sI (M4 j 1) = (M4 j 1) := sIo (by omega) (by omega)
  have q12 : ((sI (M4 j 1)).tdiv 2) = (sI (M4 j 1)) / 2 := Int.tdiv_eq_ediv_of_nonneg (by omega)
  have s13 : sI x3 = x3 := sIo (by omega) (by omega)
  have s14 : sI ((sI (M4 j 1)).tdiv 2) = ((sI (M4 j 1)).tdiv 2) := sIo (by omega) (by omega)
  refine ⟨fun c15 => ?_, fun c15 => ?_⟩
  · skip
    exact hQ _ ⟨hB5, hF6, trivial⟩
  · skip
    have o16 : 0 ≤ (sI x3) ∧ (sI x3) < 24 := by omega
    refine ⟨o16, ?_⟩
    have q17 : (-2147483648) ≤ (M4 (j + 1) (sI x3).toNat) ∧ (M4 (j + 1) (sI x3).toNat) ≤ 2147483647 := BN.at hB5 cd2 rfl
    have s19 : sI (((M4 j 1) - 1) - x3) = (((M4 j 1) - 1) - x3) := sIo (by omega) (by omega)
    have o20 : 0 ≤ (sI (((M4 j 1) - 1) - x3)) ∧ (sI (((M4 j 1) - 1) - x3)) < 24 := by omega
    refine ⟨o20, ?_⟩
    have q21 : (-2147483648) ≤ (M4 (j + 1) (sI (((M4 j 1) - 1) - x3)).toNat) ∧ (M4 (j + 1) (sI (((M4 j 1) - 1) - x3)).toNat) ≤ 2147483647 := BN.at hB5 cd2 rfl
    have o22 : 0 ≤ (sI x3) ∧ (sI x3) < 24 := by omega
    refine ⟨o22, ?_⟩
    intro M23 e24
    have hB25 : BN wC M23 := by rw [e24]; exact BN.up hB5 cd2 rfl (by omega) (by omega)
    have hF26 : ∀ j9 : Nat, ¬ (j9 = j ∨ j9 = j + 1) → M23 j9 = M j9 := fun j9 h9 => by rw [e24]; exact (zup_row _ _ (by omega)).trans (hF6 j9 h9)
    have r27 : M23 j 1 = M4 j 1 := by rw [e24]; exact zup_n _ _ (by omega)
    have q28 : 0 ≤ (M23 j 1) ∧ (M23 j 1) ≤ 24 := BN.at hB25 cd_j rfl
    have s29 : sI (((M23 j 1) - 1) - x3) = (((M23 j 1) - 1) - x3) := sIo (by omega) (by omega)
    have o30 : 0 ≤ (sI (((M23 j 1) - 1) - x3)) ∧ (sI (((M23 j 1) - 1) - x3)) < 24 := by omega
    refine ⟨o30, ?_⟩
    intro M31 e32
    have hB33 : BN wC M31 := by rw [e32]; exact BN.up hB25 cd2 rfl (by omega) (by omega)
    have hF34 : ∀ j9 : Nat, ¬ (j9 = j ∨ j9 = j + 1) → M31 j9 = M j9 := fun j9 h9 => by rw [e32]; exact (zup_row _ _ (by omega)).trans (hF26 j9 h9)
    have r35 : M31 j 1 = M23 j 1 := by rw [e32]; exact zup_n _ _ (by omega)
    exact k9 _ _ ⟨hB33, hF34, (by omega), trivial⟩ (by omega)
set_option maxHeartbeats 4000000 in
set_option maxRecDepth 100000 in
theorem sC_Splicer_open {M : zM}  (hB : BN wC M) (p0 : 0 ≤ M 1 2) {Q : Int → zM → Prop} (hQ : ∀ (z : Int) (M1 : zM), BN wC M1 ∧ (∀ j9 : Nat, ¬ (1 ≤ j9 ∧ j9 ≤ 29) → M1 j9 = M j9) ∧ ((-101) ≤ z ∧ z ≤ 0) ∧ (0 ≤ M1 1 2) ∧ True → Q z M1) : wC_Splicer_open  M Q := by
  unfold wC_Splicer_open
  have hF0 : ∀ j9 : Nat, ¬ (1 ≤ j9 ∧ j9 ≤ 29) → M j9 = M j9 := fun j9 _ => rfl
  refine sC_Splicer_layTerm hB (by omega) (fun z1 M2 h3 => ?_)
  obtain ⟨hB4, f5, p6, p7, -⟩ := h3
  have hF8 : ∀ j9 : Nat, ¬ (1 ≤ j9 ∧ j9 ≤ 29) → M2 j9 = M j9 := fun j9 h9 => ((f5 j9 (by omega)).trans (hF0 j9 h9))
  refine ⟨fun c9 => ?_, fun c9 => ?_⟩
  · skip
    exact hQ _ _ ⟨hB4, hF8, (by omega), (by omega), trivial⟩
  · skip
    have q10 : (-1) ≤ (M2 1 2) ∧ (M2 1 2) ≤ 5 := BN.at hB4 (rfl : zcd wC 1 = 1) rfl
    have s11 : sI (M2 1 2) = (M2 1 2) := sIo (by omega) (by omega)
    refine ⟨fun c12 => ?_, fun c12 => ?_⟩
    · skip
      exact hQ _ _ ⟨hB4, hF8, (by omega), (by omega), trivial⟩
    · skip
      intro M14 e15
      have hB16 : BN wC M14 := by rw [e15]; exact BN.up hB4 (rfl : zcd wC 1 = 1) rfl (by omega) (by omega)
      have hF17 : ∀ j9 : Nat, ¬ (1 ≤ j9 ∧ j9 ≤ 29) → M14 j9 = M j9 := fun j9 h9 => by rw [e15]; exact (zup_row _ _ (by omega)).trans (hF8 j9 h9)
      have r18 : M14 1 2 = ((M2 1 2) + 1) := by rw [e15]; exact zup_s _ _ _ _
      refine sC_Splicer_openRow hB16 (by omega) (fun  M19 h20 => ?_)
      obtain ⟨hB21, f22, p23, -⟩ := h20
      have hF24 : ∀ j9 : Nat, ¬ (1 ≤ j9 ∧ j9 ≤ 29) → M19 j9 = M j9 := fun j9 h9 => ((f22 j9 (by omega)).trans (hF17 j9 h9))
      exact hQ _ _ ⟨hB21, hF24, (by omega), (by omega), trivial⟩
set_option maxHeartbeats 4000000 in
set_option maxRecDepth 100000 in
theorem sC_Strip_copy {M : zM} {j : Nat} {a0 : Nat} (hB : BN wC M) (lt_j : j < nC) (cd_j : zcd wC j = 6) (lt_a0 : a0 < nC) (cd_a0 : zcd wC a0 = 6) (p0 : a0 ≠ j) {Q : zM → Prop} (hQ : ∀ (M1 : zM), BN wC M1 ∧ (∀ j9 : Nat, ¬ (j9 = j ∨ j9 = j + 1) → M1 j9 = M j9) ∧ True → Q M1) : wC_Strip_copy j a0 M Q := by
  unfold wC_Strip_copy
  have hF0 : ∀ j9 : Nat, ¬ (j9 = j ∨ j9 = j + 1) → M j9 = M j9 := fun j9 _ => rfl
  obtain ⟨lt1, cd2⟩ := nx_strip j lt_j cd_j
  obtain ⟨lt3, cd4⟩ := nx_strip a0 lt_a0 cd_a0
  have q5 : 0 ≤ (M a0 1) ∧ (M a0 1) ≤ 24 := BN.at hB cd_a0 rfl
  intro M6 e7
  have hB8 : BN wC M6 := by rw [e7]; exact BN.up hB cd_j rfl (by omega) (by omega)
  have hF9 : ∀ j9 : Nat, ¬ (j9 = j ∨ j9 = j + 1) → M6 j9 = M j9 := fun j9 h9 => by rw [e7]; exact (zup_row _ _ (by omega)).trans (hF0 j9 h9)
  have o10 : (a0 + 1) ≠ (j + 1) := by omega
  refine ⟨o10, ?_⟩
  intro M11 e12
  have hB13 : BN wC M11 := by rw [e12]; exact BN.cp hB8 cd2 (fun _ => rfl) (fun k => BN.r32 hB8 _ k)
  have hF14 : ∀ j9 : Nat, ¬ (j9 = j ∨ j9 = j + 1) → M11 j9 = M j9 := fun j9 h9 => by rw [e12]; exact (zcp_row (by omega)).trans (hF9 j9 h9)
  exact hQ _ ⟨hB13, hF14, trivial⟩
set_option maxHeartbeats 4000000 in
set_option maxRecDepth 100000 in
theorem sC_Splicer_close {M : zM}  (hB : BN wC M) (p0 : 0 ≤ M 1 2) {Q : Int → zM → Prop} (hQ : ∀ (z : Int) (M1 : zM), BN wC M1 ∧ (∀ j9 : Nat, ¬ (1 ≤ j9 ∧ j9 ≤ 29) → M1 j9 = M j9) ∧ ((-101) ≤ z ∧ z ≤ 0) ∧ (0 ≤ M1 1 2) ∧ True → Q z M1) : wC_Splicer_close  M Q := by
  unfold wC_Splicer_close
  have hF0 : ∀ j9 : Nat, ¬ (1 ≤ j9 ∧ j9 ≤ 29) → M j9 = M j9 := fun j9 _ => rfl
  refine sC_Splicer_layTerm hB (by omega) (fun z1 M2 h3 => ?_)
  obtain ⟨hB4, f5, p6, p7, -⟩ := h3
  have hF8 : ∀ j9 : Nat, ¬ (1 ≤ j9 ∧ j9 ≤ 29) → M2 j9 = M j9 := fun j9 h9 => ((f5 j9 (by omega)).trans (hF0 j9 h9))
  refine ⟨fun c9 => ?_, fun c9 => ?_⟩
  · skip
    exact hQ _ _ ⟨hB4, hF8, (by omega), (by omega), trivial⟩
  · skip
    have q10 : (-1) ≤ (M2 1 2) ∧ (M2 1 2) ≤ 5 := BN.at hB4 (rfl : zcd wC 1 = 1) rfl
    have s11 : sI (M2 1 2) = (M2 1 2) := sIo (by omega) (by omega)
    refine ⟨fun c12 => ?_, fun c12 => ?_⟩
    · skip
      exact hQ _ _ ⟨hB4, hF8, (by omega), (by omega), trivial⟩
    · skip
      intro M14 e15
      have hB16 : BN wC M14 := by rw [e15]; exact BN.up hB4 (rfl : zcd wC 1 = 1) rfl (by omega) (by omega)
      have hF17 : ∀ j9 : Nat, ¬ (1 ≤ j9 ∧ j9 ≤ 29) → M14 j9 = M j9 := fun j9 h9 => by rw [e15]; exact (zup_row _ _ (by omega)).trans (hF8 j9 h9)
      have r18 : M14 1 2 = ((M2 1 2) - 1) := by rw [e15]; exact zup_s _ _ _ _
      have q19 : (-1) ≤ (M14 1 2) ∧ (M14 1 2) ≤ 5 := BN.at hB16 (rfl : zcd wC 1 = 1) rfl
      have s20 : sI (M14 1 2) = (M14 1 2) := sIo (by omega) (by omega)
      have o21 : 0 ≤ (sI (M14 1 2)) ∧ (sI (M14 1 2)) < 6 := by omega
      refine ⟨o21, ?_⟩
      obtain ⟨lt22, cd23⟩ : (8 + 4 * (sI (M14 1 2)).toNat) < nC ∧ zcd wC (8 + 4 * (sI (M14 1 2)).toNat) = 6 := (by decide : ∀ k : Nat, k < 6 → (8 + 4 * k) < nC ∧ zcd wC (8 + 4 * k) = 6) (sI (M14 1 2)).toNat (by omega)
      obtain ⟨lt24, cd25⟩ := nx_strip (8 + 4 * (sI (M14 1 2)).toNat) lt22 cd23
      have s27 : sI ((M14 1 2) + 1) = ((M14 1 2) + 1) := sIo (by omega) (by omega)
      have o28 : 0 ≤ (sI ((M14 1 2) + 1)) ∧ (sI ((M14 1 2) + 1)) < 6 := by omega
      refine ⟨o28, ?_⟩
      obtain ⟨lt29, cd30⟩ : (6 + 4 * (sI ((M14 1 2) + 1)).toNat) < nC ∧ zcd wC (6 + 4 * (sI ((M14 1 2) + 1)).toNat) = 6 := (by decide : ∀ k : Nat, k < 6 → (6 + 4 * k) < nC ∧ zcd wC (6 + 4 * k) = 6) (sI ((M14 1 2) + 1)).toNat (by omega)
      obtain ⟨lt31, cd32⟩ := nx_strip (6 + 4 * (sI ((M14 1 2) + 1)).toNat) lt29 cd30
      refine sC_Strip_copy hB16 lt22 cd23 lt29 cd30 (by omega) (fun  M33 h34 => ?_)
      obtain ⟨hB35, f36, -⟩ := h34
      have hF37 : ∀ j9 : Nat, ¬ (1 ≤ j9 ∧ j9 ≤ 29) → M33 j9 = M j9 := fun j9 h9 => ((f36 j9 (by omega)).trans (hF17 j9 h9))
      have r38 : M33 1 2 = M14 1 2 := congrFun (f36 1 (by omega)) 2
      exact hQ _ _ ⟨hB35, hF37, (by omega), (by omega), trivial⟩
set_option maxHeartbeats 4000000 in
set_option maxRecDepth 100000 in
theorem sC_Splicer_readSign {M : zM} {a0 : Int} (hB : BN wC M) (v0 : 0 ≤ a0 ∧ a0 ≤ 255) (p0 : 0 ≤ M 1 2) {Q : Int → zM → Prop} (hQ : ∀ (z : Int) (M1 : zM), BN wC M1 ∧ (∀ j9 : Nat, ¬ (1 ≤ j9 ∧ j9 ≤ 29) → M1 j9 = M j9) ∧ ((-101) ≤ z ∧ z ≤ 0) ∧ (0 ≤ M1 1 2) ∧ True → Q z M1) : wC_Splicer_readSign a0 M Q := by
  unfold wC_Splicer_readSign
  have hF0 : ∀ j9 : Nat, ¬ (1 ≤ j9 ∧ j9 ≤ 29) → M j9 = M j9 := fun j9 _ => rfl
  have s1 : sI a0 = a0 := sIo (by omega) (by omega)
  refine ⟨fun c2 => ?_, fun c2 => ?_⟩
  · skip
    refine sC_Splicer_open hB (by omega) (fun z3 M4 h5 => ?_)
    obtain ⟨hB6, f7, p8, p9, -⟩ := h5
    have hF10 : ∀ j9 : Nat, ¬ (1 ≤ j9 ∧ j9 ≤ 29) → M4 j9 = M j9 := fun j9 h9 => ((f7 j9 (by omega)).trans (hF0 j9 h9))
    exact hQ _ _ ⟨hB6, hF10, (by omega), (by omega), trivial⟩
  refine ⟨fun c11 => ?_, fun c11 => ?_⟩
  · skip
    refine sC_Splicer_close hB (by omega) (fun z12 M13 h14 => ?_)
    obtain ⟨hB15, f16, p17, p18, -⟩ := h14
    have hF19 : ∀ j9 : Nat, ¬ (1 ≤ j9 ∧ j9 ≤ 29) → M13 j9 = M j9 := fun j9 h9 => ((f16 j9 (by omega)).trans (hF0 j9 h9))
    exact hQ _ _ ⟨hB15, hF19, (by omega), (by omega), trivial⟩
  refine ⟨fun c20 => ?_, fun c20 => ?_⟩
  · skip
    intro M21 e22
    have hB23 : BN wC M21 := by rw [e22]; exact BN.up hB (rfl : zcd wC 1 = 1) rfl (by omega) (by omega)
    have hF24 : ∀ j9 : Nat, ¬ (1 ≤ j9 ∧ j9 ≤ 29) → M21 j9 = M j9 := fun j9 h9 => by rw [e22]; exact (zup_row _ _ (by omega)).trans (hF0 j9 h9)
    have r25 : M21 1 2 = M 1 2 := by rw [e22]; exact zup_n _ _ (by omega)
    exact hQ _ _ ⟨hB23, hF24, (by omega), (by omega), trivial⟩
  refine ⟨fun c26 => ?_, fun c26 => ?_⟩
  · skip
    intro M27 e28
    have hB29 : BN wC M27 := by rw [e28]; exact BN.up hB (rfl : zcd wC 1 = 1) rfl (by omega) (by omega)
    have hF30 : ∀ j9 : Nat, ¬ (1 ≤ j9 ∧ j9 ≤ 29) → M27 j9 = M j9 := fun j9 h9 => by rw [e28]; exact (zup_row _ _ (by omega)).trans (hF0 j9 h9)
    have r31 : M27 1 2 = M 1 2 := by rw [e28]; exact zup_n _ _ (by omega)
    refine sC_Splicer_layTerm hB29 (by omega) (fun z32 M33 h34 => ?_)
    obtain ⟨hB35, f36, p37, p38, -⟩ := h34
    have hF39 : ∀ j9 : Nat, ¬ (1 ≤ j9 ∧ j9 ≤ 29) → M33 j9 = M j9 := fun j9 h9 => ((f36 j9 (by omega)).trans (hF30 j9 h9))
    exact hQ _ _ ⟨hB35, hF39, (by omega), (by omega), trivial⟩
  refine ⟨fun c40 => ?_, fun c40 => ?_⟩
  · skip
    intro M41 e42
    have hB43 : BN wC M41 := by rw [e42]; exact BN.up hB (rfl : zcd wC 1 = 1) rfl (by omega) (by omega)
    have hF44 : ∀ j9 : Nat, ¬ (1 ≤ j9 ∧ j9 ≤ 29) → M41 j9 = M j9 := fun j9 h9 => by rw [e42]; exact (zup_row _ _ (by omega)).trans (hF0 j9 h9)
    have r45 : M41 1 2 = M 1 2 := by rw [e42]; exact zup_n _ _ (by omega)
    refine sC_Splicer_beginTerm hB43 (by omega) (by omega) (fun z46 M47 h48 => ?_)
    obtain ⟨hB49, f50, p51, p52, -⟩ := h48
    have hF53 : ∀ j9 : Nat, ¬ (1 ≤ j9 ∧ j9 ≤ 29) → M47 j9 = M j9 := fun j9 h9 => ((f50 j9 (by omega)).trans (hF44 j9 h9))
    exact hQ _ _ ⟨hB49, hF53, (by omega), (by omega), trivial⟩
  refine ⟨fun c54 => ?_, fun c54 => ?_⟩
  · skip
    intro M55 e56
    have hB57 : BN wC M55 := by rw [e56]; exact BN.up hB (rfl : zcd wC 1 = 1) rfl (by omega) (by omega)
    have hF58 : ∀ j9 : Nat, ¬ (1 ≤ j9 ∧ j9 ≤ 29) → M55 j9 = M j9 := fun j9 h9 => by rw [e56]; exact (zup_row _ _ (by omega)).trans (hF0 j9 h9)
    have r59 : M55 1 2 = M 1 2 := by rw [e56]; exact zup_n _ _ (by omega)
    exact hQ _ _ ⟨hB57, hF58, (by omega), (by omega), trivial⟩
  refine ⟨fun c60 => ?_, fun c60 => ?_⟩
  · skip
    have q61 : (-1) ≤ (M 1 2) ∧ (M 1 2) ≤ 5 := BN.at hB (rfl : zcd wC 1 = 1) rfl
    have s62 : sI (M 1 2) = (M 1 2) := sIo (by omega) (by omega)
    have o63 : 0 ≤ (sI (M 1 2)) ∧ (sI (M 1 2)) < 6 := by omega
    refine ⟨o63, ?_⟩
    obtain ⟨lt64, cd65⟩ : (8 + 4 * (sI (M 1 2)).toNat) < nC ∧ zcd wC (8 + 4 * (sI (M 1 2)).toNat) = 6 := (by decide : ∀ k : Nat, k < 6 → (8 + 4 * k) < nC ∧ zcd wC (8 + 4 * k) = 6) (sI (M 1 2)).toNat (by omega)
    obtain ⟨lt66, cd67⟩ := nx_strip (8 + 4 * (sI (M 1 2)).toNat) lt64 cd65
    refine sC_Strip_turn hB lt64 cd65 (fun  M68 h69 => ?_)
    obtain ⟨hB70, f71, -⟩ := h69
    have hF72 : ∀ j9 : Nat, ¬ (1 ≤ j9 ∧ j9 ≤ 29) → M68 j9 = M j9 := fun j9 h9 => ((f71 j9 (by omega)).trans (hF0 j9 h9))
    have r73 : M68 1 2 = M 1 2 := congrFun (f71 1 (by omega)) 2
    exact hQ _ _ ⟨hB70, hF72, (by omega), (by omega), trivial⟩
  exact hQ _ _ ⟨hB, hF0, (by omega), (by omega), trivial⟩
set_option maxHeartbeats 4000000 in
set_option maxRecDepth 100000 in
theorem sC_Splicer_putTogether {M : zM}  (hB : BN wC M)  {Q : Int → zM → Prop} (hQ : ∀ (z : Int) (M1 : zM), BN wC M1 ∧ (∀ j9 : Nat, ¬ (1 ≤ j9 ∧ j9 ≤ 29) → M1 j9 = M j9) ∧ ((-101) ≤ z ∧ z ≤ 0) ∧ True → Q z M1) : wC_Splicer_putTogether  M Q := by
  unfold wC_Splicer_putTogether
  have hF0 : ∀ j9 : Nat, ¬ (1 ≤ j9 ∧ j9 ≤ 29) → M j9 = M j9 := fun j9 _ => rfl
  intro M1 e2
  have hB3 : BN wC M1 := by rw [e2]; exact BN.up hB (rfl : zcd wC 1 = 1) rfl (by omega) (by omega)
  have hF4 : ∀ j9 : Nat, ¬ (1 ≤ j9 ∧ j9 ≤ 29) → M1 j9 = M j9 := fun j9 h9 => by rw [e2]; exact (zup_row _ _ (by omega)).trans (hF0 j9 h9)
  have r5 : M1 1 2 = 0 := by rw [e2]; exact zup_s _ _ _ _
  intro M6 e7
  have hB8 : BN wC M6 := by rw [e7]; exact BN.up hB3 (rfl : zcd wC 1 = 1) rfl (by omega) (by omega)
  have hF9 : ∀ j9 : Nat, ¬ (1 ≤ j9 ∧ j9 ≤ 29) → M6 j9 = M j9 := fun j9 h9 => by rw [e7]; exact (zup_row _ _ (by omega)).trans (hF4 j9 h9)
  have r10 : M6 1 2 = M1 1 2 := by rw [e7]; exact zup_n _ _ (by omega)
  refine sC_Splicer_openRow hB8 (by omega) (fun  M11 h12 => ?_)
  obtain ⟨hB13, f14, p15, -⟩ := h12
  have hF16 : ∀ j9 : Nat, ¬ (1 ≤ j9 ∧ j9 ≤ 29) → M11 j9 = M j9 := fun j9 h9 => ((f14 j9 (by omega)).trans (hF9 j9 h9))
  refine wL2_of (fun x17 x18 M19 => BN wC M19 ∧ (∀ j9 : Nat, ¬ (1 ≤ j9 ∧ j9 ≤ 29) → M19 j9 = M j9) ∧ ((-101) ≤ x17 ∧ x17 ≤ 0) ∧ (0 ≤ x18 ∧ x18 ≤ 1000000) ∧ (0 ≤ M19 1 2) ∧ True) (fun x17 x18 M19 => (1000000 - x18).toNat) ⟨hB13, hF16, (by omega), (by omega), (by omega), trivial⟩ (fun K x17 x18 M19 h25 k26 => ?_)
  obtain ⟨hB20, hF21, i22, i23, i24, -⟩ := h25
  have q27 : 0 ≤ (M19 1 1) ∧ (M19 1 1) ≤ 100 := BN.at hB20 (rfl : zcd wC 1 = 1) rfl
  have s28 : sI x18 = x18 := sIo (by omega) (by omega)
  have s29 : sI (M19 1 1) = (M19 1 1) := sIo (by omega) (by omega)
  refine ⟨fun c30 => ?_, fun c30 => ?_⟩
  · skip
    have s31 : sI x17 = x17 := sIo (by omega) (by omega)
    refine ⟨fun c32 => ?_, fun c32 => ?_⟩
    · skip
      exact hQ _ _ ⟨hB20, hF21, (by omega), trivial⟩
    · skip
      refine sC_Splicer_layTerm hB20 (by omega) (fun z33 M34 h35 => ?_)
      obtain ⟨hB36, f37, p38, p39, -⟩ := h35
      have hF40 : ∀ j9 : Nat, ¬ (1 ≤ j9 ∧ j9 ≤ 29) → M34 j9 = M j9 := fun j9 h9 => ((f37 j9 (by omega)).trans (hF21 j9 h9))
      exact hQ _ _ ⟨hB36, hF40, (by omega), trivial⟩
  · skip
    have s41 : sI x17 = x17 := sIo (by omega) (by omega)
    refine ⟨fun c42 => ?_, fun c42 => ?_⟩
    · skip
      refine ⟨fun c43 => ?_, fun c43 => ?_⟩
      · skip
        exact hQ _ _ ⟨hB20, hF21, (by omega), trivial⟩
      · skip
        refine sC_Splicer_layTerm hB20 (by omega) (fun z44 M45 h46 => ?_)
        obtain ⟨hB47, f48, p49, p50, -⟩ := h46
        have hF51 : ∀ j9 : Nat, ¬ (1 ≤ j9 ∧ j9 ≤ 29) → M45 j9 = M j9 := fun j9 h9 => ((f48 j9 (by omega)).trans (hF21 j9 h9))
        exact hQ _ _ ⟨hB47, hF51, (by omega), trivial⟩
    · skip
      have o52 : 0 ≤ (sI x18) ∧ (sI x18) < 100 := by omega
      refine ⟨o52, ?_⟩
      have q53 : 0 ≤ (M19 2 (sI x18).toNat) ∧ (M19 2 (sI x18).toNat) ≤ 255 := BN.at hB20 (rfl : zcd wC 2 = 2) rfl
      refine sC_Splicer_isDigit hB20 (by omega) (by omega) (fun z54  h55 => ?_)
      obtain ⟨p56, p57, -⟩ := h55
      refine ⟨fun c58 => ?_, fun c58 => ?_⟩
      · skip
        have o59 : 0 ≤ (sI x18) ∧ (sI x18) < 100 := by omega
        refine ⟨o59, ?_⟩
        refine sC_Splicer_readSign hB20 (by omega) (by omega) (fun z61 M62 h63 => ?_)
        obtain ⟨hB64, f65, p66, p67, -⟩ := h63
        have hF68 : ∀ j9 : Nat, ¬ (1 ≤ j9 ∧ j9 ≤ 29) → M62 j9 = M j9 := fun j9 h9 => ((f65 j9 (by omega)).trans (hF21 j9 h9))
        exact k26 _ _ _ ⟨hB64, hF68, (by omega), (by omega), (by omega), trivial⟩ (by omega)
      · skip
        have o69 : 0 ≤ (sI x18) ∧ (sI x18) < 100 := by omega
        refine ⟨o69, ?_⟩
        refine sC_Splicer_readDigit hB20 (by omega) (by omega) (fun z71 M72 h73 => ?_)
        obtain ⟨hB74, f75, p76, p77, -⟩ := h73
        have hF78 : ∀ j9 : Nat, ¬ (1 ≤ j9 ∧ j9 ≤ 29) → M72 j9 = M j9 := fun j9 h9 => ((f75 j9 (by omega)).trans (hF21 j9 h9))
        exact k26 _ _ _ ⟨hB74, hF78, (by omega), (by omega), (by omega), trivial⟩ (by omega)
set_option maxHeartbeats 4000000 in
set_option maxRecDepth 100000 in
theorem sC_Splicer_putInto {M : zM} {a0 : Nat} (hB : BN wC M) (lt_a0 : a0 < nC) (cd_a0 : zcd wC a0 = 6) (p0 : a0 = 30) {Q : Int → zM → Prop} (hQ : ∀ (z : Int) (M1 : zM), BN wC M1 ∧ (∀ j9 : Nat, ¬ (1 ≤ j9 ∧ j9 ≤ 31) → M1 j9 = M j9) ∧ ((-2147483648) ≤ z ∧ z ≤ 2147483647) ∧ (M1 1 1 = 0) ∧ True → Q z M1) : wC_Splicer_putInto a0 M Q := by
  unfold wC_Splicer_putInto
  have hF0 : ∀ j9 : Nat, ¬ (1 ≤ j9 ∧ j9 ≤ 31) → M j9 = M j9 := fun j9 _ => rfl
  obtain ⟨lt1, cd2⟩ := nx_strip a0 lt_a0 cd_a0
  refine sC_Splicer_firstWrong hB  (fun z3 M4 h5 => ?_)
  obtain ⟨hB6, f7, p8, -⟩ := h5
  have hF9 : ∀ j9 : Nat, ¬ (1 ≤ j9 ∧ j9 ≤ 31) → M4 j9 = M j9 := fun j9 h9 => ((f7 j9 (by omega)).trans (hF0 j9 h9))
  refine wJ1_dup ?_
  refine ⟨fun c10 => ?_, fun c10 => ?_⟩
  · skip
    have s11 : sI ((-1) - z3) = ((-1) - z3) := sIo (by omega) (by omega)
    intro M12 e13
    have hB14 : BN wC M12 := by rw [e13]; exact BN.up hB6 (rfl : zcd wC 1 = 1) rfl (by omega) (by omega)
    have hF15 : ∀ j9 : Nat, ¬ (1 ≤ j9 ∧ j9 ≤ 31) → M12 j9 = M j9 := fun j9 h9 => by rw [e13]; exact (zup_row _ _ (by omega)).trans (hF9 j9 h9)
    have r16 : M12 1 1 = 0 := by rw [e13]; exact zup_s _ _ _ _
    refine ⟨fun c17 => ?_, fun c17 => ?_⟩
    · skip
      exact hQ _ _ ⟨hB14, hF15, (by omega), (by omega), trivial⟩
    · skip
      refine sC_Strip_copy hB14 lt_a0 cd_a0 (by decide) (rfl : zcd wC 6 = 6) (by omega) (fun  M18 h19 => ?_)
      obtain ⟨hB20, f21, -⟩ := h19
      have hF22 : ∀ j9 : Nat, ¬ (1 ≤ j9 ∧ j9 ≤ 31) → M18 j9 = M j9 := fun j9 h9 => ((f21 j9 (by omega)).trans (hF15 j9 h9))
      have r23 : M18 1 1 = M12 1 1 := congrFun (f21 1 (by omega)) 1
      have q24 : 0 ≤ (M18 a0 1) ∧ (M18 a0 1) ≤ 24 := BN.at hB20 cd_a0 rfl
      have s25 : sI (M18 a0 1) = (M18 a0 1) := sIo (by omega) (by omega)
      exact hQ _ _ ⟨hB20, hF22, (by omega), (by omega), trivial⟩
  · skip
    refine sC_Splicer_putTogether hB6  (fun z26 M27 h28 => ?_)
    obtain ⟨hB29, f30, p31, -⟩ := h28
    have hF32 : ∀ j9 : Nat, ¬ (1 ≤ j9 ∧ j9 ≤ 31) → M27 j9 = M j9 := fun j9 h9 => ((f30 j9 (by omega)).trans (hF9 j9 h9))
    have s33 : sI z26 = z26 := sIo (by omega) (by omega)
    intro M34 e35
    have hB36 : BN wC M34 := by rw [e35]; exact BN.up hB29 (rfl : zcd wC 1 = 1) rfl (by omega) (by omega)
    have hF37 : ∀ j9 : Nat, ¬ (1 ≤ j9 ∧ j9 ≤ 31) → M34 j9 = M j9 := fun j9 h9 => by rw [e35]; exact (zup_row _ _ (by omega)).trans (hF32 j9 h9)
    have r38 : M34 1 1 = 0 := by rw [e35]; exact zup_s _ _ _ _
    refine ⟨fun c39 => ?_, fun c39 => ?_⟩
    · skip
      exact hQ _ _ ⟨hB36, hF37, (by omega), (by omega), trivial⟩
    · skip
      refine sC_Strip_copy hB36 lt_a0 cd_a0 (by decide) (rfl : zcd wC 6 = 6) (by omega) (fun  M40 h41 => ?_)
      obtain ⟨hB42, f43, -⟩ := h41
      have hF44 : ∀ j9 : Nat, ¬ (1 ≤ j9 ∧ j9 ≤ 31) → M40 j9 = M j9 := fun j9 h9 => ((f43 j9 (by omega)).trans (hF37 j9 h9))
      have r45 : M40 1 1 = M34 1 1 := congrFun (f43 1 (by omega)) 1
      have q46 : 0 ≤ (M40 a0 1) ∧ (M40 a0 1) ≤ 24 := BN.at hB42 cd_a0 rfl
      have s47 : sI (M40 a0 1) = (M40 a0 1) := sIo (by omega) (by omega)
      exact hQ _ _ ⟨hB42, hF44, (by omega), (by omega), trivial⟩
end zz30_C00
section zz30_C01
/-! safety of the class, 1 -/
set_option maxHeartbeats 4000000 in
set_option maxRecDepth 100000 in
theorem sC_splice {M : zM}  (hB : BN wC M)  {Q : Int → zM → Prop} (hQ : ∀ (z : Int) (M1 : zM), BN wC M1 ∧ (∀ j9 : Nat, ¬ (1 ≤ j9 ∧ j9 ≤ 31) → M1 j9 = M j9) ∧ ((-2147483648) ≤ z ∧ z ≤ 2147483647) ∧ (M1 1 1 = 0) ∧ True → Q z M1) : wC_splice  M Q := by
  unfold wC_splice
  have hF0 : ∀ j9 : Nat, ¬ (1 ≤ j9 ∧ j9 ≤ 31) → M j9 = M j9 := fun j9 _ => rfl
  refine sC_Splicer_putInto hB (by decide) (rfl : zcd wC 30 = 6) (by omega) (fun z1 M2 h3 => ?_)
  obtain ⟨hB4, f5, p6, p7, -⟩ := h3
  have hF8 : ∀ j9 : Nat, ¬ (1 ≤ j9 ∧ j9 ≤ 31) → M2 j9 = M j9 := fun j9 h9 => ((f5 j9 (by omega)).trans (hF0 j9 h9))
  exact hQ _ _ ⟨hB4, hF8, (by omega), (by omega), trivial⟩
set_option maxHeartbeats 4000000 in
set_option maxRecDepth 100000 in
theorem sC_Strip_at {M : zM} {j : Nat} {a0 : Int} (hB : BN wC M) (lt_j : j < nC) (cd_j : zcd wC j = 6) (v0 : (-2147483648) ≤ a0 ∧ a0 ≤ 2147483647) {Q : Int → Prop} (hQ : ∀ (z : Int), ((-2147483648) ≤ z ∧ z ≤ 2147483647) ∧ True → Q z) : wC_Strip_at j a0 M Q := by
  unfold wC_Strip_at
  obtain ⟨lt1, cd2⟩ := nx_strip j lt_j cd_j
  refine sC_Strip_has hB lt_j cd_j (by omega) (fun z3  h4 => ?_)
  obtain ⟨p5, p6, -⟩ := h4
  refine ⟨fun c7 => ?_, fun c7 => ?_⟩
  · skip
    exact hQ _ ⟨(by omega), trivial⟩
  · skip
    have s8 : sI a0 = a0 := sIo (by omega) (by omega)
    have o9 : 0 ≤ (sI a0) ∧ (sI a0) < 24 := by omega
    refine ⟨o9, ?_⟩
    have q10 : (-2147483648) ≤ (M (j + 1) (sI a0).toNat) ∧ (M (j + 1) (sI a0).toNat) ≤ 2147483647 := BN.at hB cd2 rfl
    have s11 : sI (M (j + 1) (sI a0).toNat) = (M (j + 1) (sI a0).toNat) := sIo (by omega) (by omega)
    exact hQ _ ⟨(by omega), trivial⟩
set_option maxHeartbeats 4000000 in
set_option maxRecDepth 100000 in
theorem sC_hand {M : zM} {a0 : Int} (hB : BN wC M) (v0 : (-2147483648) ≤ a0 ∧ a0 ≤ 2147483647) {Q : Int → Prop} (hQ : ∀ (z : Int), ((-2147483648) ≤ z ∧ z ≤ 2147483647) ∧ True → Q z) : wC_hand a0 M Q := by
  unfold wC_hand
  refine sC_Strip_at hB (by decide) (rfl : zcd wC 30 = 6) (by omega) (fun z1  h2 => ?_)
  obtain ⟨p3, -⟩ := h2
  exact hQ _ ⟨(by omega), trivial⟩
set_option maxHeartbeats 4000000 in
set_option maxRecDepth 100000 in
theorem sC_within {M : zM} {a0 : Int} {a1 : Int} {a2 : Int} (hB : BN wC M) (v0 : (-2147483648) ≤ a0 ∧ a0 ≤ 2147483647) (v1 : (-2147483648) ≤ a1 ∧ a1 ≤ 2147483647) (v2 : (-2147483648) ≤ a2 ∧ a2 ≤ 2147483647) {Q : Int → Prop} (hQ : ∀ (z : Int), (0 ≤ z ∧ z ≤ 1) ∧ ((z = 1 ∧ a1 ≤ a0 ∧ a0 ≤ a2) ∨ (z = 0 ∧ ¬ (a1 ≤ a0 ∧ a0 ≤ a2))) ∧ True → Q z) : wC_within a0 a1 a2 M Q := by
  unfold wC_within
  have s1 : sI a0 = a0 := sIo (by omega) (by omega)
  have s2 : sI a1 = a1 := sIo (by omega) (by omega)
  refine ⟨fun c3 => ?_, fun c3 => ?_⟩
  · skip
    exact hQ _ ⟨(by omega), (by omega), trivial⟩
  · skip
    have s4 : sI a2 = a2 := sIo (by omega) (by omega)
    refine ⟨fun c5 => ?_, fun c5 => ?_⟩
    · skip
      exact hQ _ ⟨(by omega), (by omega), trivial⟩
    · skip
      exact hQ _ ⟨(by omega), (by omega), trivial⟩
set_option maxHeartbeats 4000000 in
set_option maxRecDepth 100000 in
theorem sC_isMotor {M : zM} {a0 : Int} (hB : BN wC M) (v0 : (-2147483648) ≤ a0 ∧ a0 ≤ 2147483647) {Q : Int → Prop} (hQ : ∀ (z : Int), (0 ≤ z ∧ z ≤ 1) ∧ ((z = 1 ∧ 0 ≤ a0 ∧ a0 ≤ 1) ∨ (z = 0 ∧ ¬ (0 ≤ a0 ∧ a0 ≤ 1))) ∧ True → Q z) : wC_isMotor a0 M Q := by
  unfold wC_isMotor
  refine sC_within hB (by omega) (by omega) (by omega) (fun z1  h2 => ?_)
  obtain ⟨p3, p4, -⟩ := h2
  exact hQ _ ⟨(by omega), (by omega), trivial⟩
theorem sC_by {M : zM} {a0 a1 : Int} (hB : BN wC M) (v1 : -2147483648 ≤ a1 ∧ a1 ≤ 2147483647) {Q : Int → Prop} (hQ : ∀ z, ((0 ≤ z ∧ z ≤ 2147483646) ∧ (1 ≤ a1 → z < a1) ∧ (a1 < 1 → z = 0) ∧ True) → Q z) : wC_by a0 a1 M Q := by
  unfold wC_by
  have s1 : sI a1 = a1 := sIo (by omega) (by omega)
  rw [s1]
  refine ⟨fun c => ?_, fun c => hQ _ ⟨by omega, by omega, by omega, trivial⟩⟩
  have t := tmodB (sL a0) a1 (by omega)
  have s2 : sI ((sL a0).tmod a1) = (sL a0).tmod a1 := sIo (by omega) (by omega)
  have s3 : (sL a0).tmod a1 < 0 → sI ((sL a0).tmod a1 + a1) = (sL a0).tmod a1 + a1 := fun h => sIo (by omega) (by omega)
  refine ⟨by omega, fun c2 => hQ _ ⟨by omega, by omega, by omega, trivial⟩, fun c2 => ?_⟩
  have s4 := s3 (by omega)
  exact hQ _ ⟨by omega, by omega, by omega, trivial⟩
set_option maxHeartbeats 4000000 in
set_option maxRecDepth 100000 in
theorem sC_Ring_soundsUnder {M : zM} {j : Nat} {a0 : Int} {a1 : Int} (hB : BN wC M) (lt_j : j < nC) (cd_j : zcd wC j = 14) (v0 : 0 ≤ a0 ∧ a0 ≤ 1000000) (v1 : 0 ≤ a1 ∧ a1 ≤ 24) {Q : Int → Prop} (hQ : ∀ (z : Int), ((-2147483648) ≤ z ∧ z ≤ 2147483647) ∧ True → Q z) : wC_Ring_soundsUnder j a0 a1 M Q := by
  unfold wC_Ring_soundsUnder
  obtain ⟨lt1, cd2, lt3, cd4, lt5, cd6⟩ := nx_ring j lt_j cd_j
  refine pL2_of (fun x7 x8 => (0 ≤ x8 ∧ x8 ≤ 1000000) ∧ True) (fun x7 x8 => (1000000 - x8).toNat) ⟨(by omega), trivial⟩ (fun K x7 x8 h10 k11 => ?_)
  obtain ⟨i9, -⟩ := h10
  have s12 : sI x8 = x8 := sIo (by omega) (by omega)
  refine ⟨fun c13 => ?_, fun c13 => ?_⟩
  · skip
    have s14 := sI_R x7
    exact hQ _ ⟨(by omega), trivial⟩
  · skip
    have q15 : (-2147483648) ≤ (M j 3) ∧ (M j 3) ≤ 2147483647 := BN.at hB cd_j rfl
    have q16 := shrI_R (M j 3) x8
    have q17 := andI_br (shrI (M j 3) x8) (c := 1) (by decide) (by decide)
    refine ⟨fun c18 => ?_, fun c18 => ?_⟩
    · skip
      exact k11 _ _ ⟨(by omega), trivial⟩ (by omega)
    · skip
      have s19 : sI (a0 + x8) = (a0 + x8) := sIo (by omega) (by omega)
      refine sC_by hB (by omega) (fun z20  h21 => ?_)
      obtain ⟨p22, p23, p24, -⟩ := h21
      have o25 : 0 ≤ z20 ∧ z20 < 24 := by omega
      refine ⟨o25, ?_⟩
      have q26 : (-2147483648) ≤ (M (j + 2) z20.toNat) ∧ (M (j + 2) z20.toNat) ≤ 2147483647 := BN.at hB cd4 rfl
      have q27 := orI_R x7 (M (j + 2) z20.toNat)
      exact k11 _ _ ⟨(by omega), trivial⟩ (by omega)
theorem sC_Ring_fillUnder {M : zM} {j a0 : Nat} {a1 : Int} (hB : BN wC M) (lt_j : j < nC) (cd_j : zcd wC j = 14) (lt_a0 : a0 < nC) {q : Nat} (cd_a0 : zcd wC a0 = q) (v1 : 0 ≤ a1 ∧ a1 ≤ 24) (p0 : ∀ k, cbt q k = (-2147483648, 2147483647)) {Q : zM → Prop} (hQ : ∀ M1, (BN wC M1 ∧ (∀ j9 : Nat, ¬ (j9 = a0) → M1 j9 = M j9) ∧ True) → Q M1) : wC_Ring_fillUnder j a0 a1 M Q := by
  unfold wC_Ring_fillUnder
  refine wL1_of (fun x M4 => BN wC M4 ∧ (∀ j9 : Nat, ¬ (j9 = a0) → M4 j9 = M j9) ∧ (0 ≤ x ∧ x ≤ 1000000) ∧ True) (fun x _ => (1000000 - x).toNat) ⟨hB, fun _ _ => rfl, by omega, trivial⟩ (fun K x M4 hI hK => ?_)
  obtain ⟨hB4, hF4, i1, -⟩ := hI
  have s1 : sI a1 = a1 := sIo (by omega) (by omega)
  have s2 : sI x = x := sIo (by omega) (by omega)
  refine ⟨fun c => hQ _ ⟨hB4, hF4, trivial⟩, fun c => ⟨fun c2 => hQ _ ⟨hB4, hF4, trivial⟩, fun c2 => ?_⟩⟩
  refine sC_Ring_soundsUnder hB4 lt_j cd_j (by omega) (by omega) (fun z hp => ?_)
  obtain ⟨p, -⟩ := hp
  refine ⟨⟨by omega, c2⟩, ?_⟩
  intro M5 e5
  exact hK _ _ ⟨by rw [e5]; exact BN.up hB4 cd_a0 (p0 _) p.1 p.2, fun j9 h9 => by rw [e5, zup_row _ _ h9]; exact hF4 j9 h9, by omega, trivial⟩ (by omega)
set_option maxHeartbeats 4000000 in
set_option maxRecDepth 100000 in
theorem sC_Ring_listen {M : zM} {j : Nat} (hB : BN wC M) (lt_j : j < nC) (cd_j : zcd wC j = 14) {Q : zM → Prop} (hQ : ∀ (M1 : zM), BN wC M1 ∧ (∀ j9 : Nat, ¬ (j ≤ j9 ∧ j9 ≤ j + 3) → M1 j9 = M j9) ∧ True → Q M1) : wC_Ring_listen j M Q := by
  unfold wC_Ring_listen
  have hF0 : ∀ j9 : Nat, ¬ (j ≤ j9 ∧ j9 ≤ j + 3) → M j9 = M j9 := fun j9 _ => rfl
  obtain ⟨lt1, cd2, lt3, cd4, lt5, cd6⟩ := nx_ring j lt_j cd_j
  have q7 : 0 ≤ (M (j + 1) 1) ∧ (M (j + 1) 1) ≤ 24 := BN.at hB cd2 rfl
  refine sC_Ring_fillUnder hB lt_j cd_j lt5 cd6 (by omega) (fun _ => rfl) (fun  M8 h9 => ?_)
  obtain ⟨hB10, f11, -⟩ := h9
  have hF12 : ∀ j9 : Nat, ¬ (j ≤ j9 ∧ j9 ≤ j + 3) → M8 j9 = M j9 := fun j9 h9 => ((f11 j9 (by omega)).trans (hF0 j9 h9))
  exact hQ _ ⟨hB10, hF12, trivial⟩
set_option maxHeartbeats 4000000 in
set_option maxRecDepth 100000 in
theorem sC_Ring_begin {M : zM} {j : Nat} {a0 : Nat} {a1 : Int} {a2 : Int} (hB : BN wC M) (lt_j : j < nC) (cd_j : zcd wC j = 14) (lt_a0 : a0 < nC) (cd_a0 : zcd wC a0 = 6) (v1 : 0 ≤ a1 ∧ a1 ≤ 1) (v2 : 0 ≤ a2 ∧ a2 ≤ 23) (p0 : a0 = 30) (p1 : 41 ≤ j) {Q : zM → Prop} (hQ : ∀ (M1 : zM), BN wC M1 ∧ (∀ j9 : Nat, ¬ (j ≤ j9 ∧ j9 ≤ j + 3) → M1 j9 = M j9) ∧ True → Q M1) : wC_Ring_begin j a0 a1 a2 M Q := by
  unfold wC_Ring_begin
  have hF0 : ∀ j9 : Nat, ¬ (j ≤ j9 ∧ j9 ≤ j + 3) → M j9 = M j9 := fun j9 _ => rfl
  obtain ⟨lt1, cd2, lt3, cd4, lt5, cd6⟩ := nx_ring j lt_j cd_j
  obtain ⟨lt7, cd8⟩ := nx_strip a0 lt_a0 cd_a0
  refine sC_Strip_copy hB lt1 cd2 lt_a0 cd_a0 (by omega) (fun  M9 h10 => ?_)
  obtain ⟨hB11, f12, -⟩ := h10
  have hF13 : ∀ j9 : Nat, ¬ (j ≤ j9 ∧ j9 ≤ j + 3) → M9 j9 = M j9 := fun j9 h9 => ((f12 j9 (by omega)).trans (hF0 j9 h9))
  intro M14 e15
  have hB16 : BN wC M14 := by rw [e15]; exact BN.up hB11 cd_j rfl (by omega) (by omega)
  have hF17 : ∀ j9 : Nat, ¬ (j ≤ j9 ∧ j9 ≤ j + 3) → M14 j9 = M j9 := fun j9 h9 => by rw [e15]; exact (zup_row _ _ (by omega)).trans (hF13 j9 h9)
  intro M18 e19
  have hB20 : BN wC M18 := by rw [e19]; exact BN.up hB16 cd_j rfl (by omega) (by omega)
  have hF21 : ∀ j9 : Nat, ¬ (j ≤ j9 ∧ j9 ≤ j + 3) → M18 j9 = M j9 := fun j9 h9 => by rw [e19]; exact (zup_row _ _ (by omega)).trans (hF17 j9 h9)
  intro M22 e23
  have hB24 : BN wC M22 := by rw [e23]; exact BN.up hB20 cd_j rfl (by omega) (by omega)
  have hF25 : ∀ j9 : Nat, ¬ (j ≤ j9 ∧ j9 ≤ j + 3) → M22 j9 = M j9 := fun j9 h9 => by rw [e23]; exact (zup_row _ _ (by omega)).trans (hF21 j9 h9)
  intro M26 e27
  have hB28 : BN wC M26 := by rw [e27]; exact BN.up hB24 cd_j rfl (by omega) (by omega)
  have hF29 : ∀ j9 : Nat, ¬ (j ≤ j9 ∧ j9 ≤ j + 3) → M26 j9 = M j9 := fun j9 h9 => by rw [e27]; exact (zup_row _ _ (by omega)).trans (hF25 j9 h9)
  refine sC_Ring_listen hB28 lt_j cd_j (fun  M30 h31 => ?_)
  obtain ⟨hB32, f33, -⟩ := h31
  have hF34 : ∀ j9 : Nat, ¬ (j ≤ j9 ∧ j9 ≤ j + 3) → M30 j9 = M j9 := fun j9 h9 => ((f33 j9 (by omega)).trans (hF29 j9 h9))
  exact hQ _ ⟨hB32, hF34, trivial⟩
set_option maxHeartbeats 4000000 in
set_option maxRecDepth 100000 in
theorem sC_Studio_add {M : zM} {a0 : Nat} {a1 : Int} {a2 : Int} (hB : BN wC M) (lt_a0 : a0 < nC) (cd_a0 : zcd wC a0 = 6) (v1 : 0 ≤ a1 ∧ a1 ≤ 1) (v2 : 0 ≤ a2 ∧ a2 ≤ 23) (p0 : a0 = 30) {Q : Int → zM → Prop} (hQ : ∀ (z : Int) (M1 : zM), BN wC M1 ∧ (∀ j9 : Nat, ¬ (32 ≤ j9 ∧ j9 ≤ 34 ∨ 41 ≤ j9 ∧ j9 ≤ 56) → M1 j9 = M j9) ∧ ((-2147483648) ≤ z ∧ z ≤ 2147483647) ∧ True → Q z M1) : wC_Studio_add a0 a1 a2 M Q := by
  unfold wC_Studio_add
  have hF0 : ∀ j9 : Nat, ¬ (32 ≤ j9 ∧ j9 ≤ 34 ∨ 41 ≤ j9 ∧ j9 ≤ 56) → M j9 = M j9 := fun j9 _ => rfl
  obtain ⟨lt1, cd2⟩ := nx_strip a0 lt_a0 cd_a0
  have q3 : 0 ≤ (M 32 2) ∧ (M 32 2) ≤ 4 := BN.at hB (rfl : zcd wC 32 = 8) rfl
  have s4 : sI (M 32 2) = (M 32 2) := sIo (by omega) (by omega)
  refine ⟨fun c5 => ?_, fun c5 => ?_⟩
  · skip
    have o7 : 0 ≤ (sI (M 32 2)) ∧ (sI (M 32 2)) < 4 := by omega
    refine ⟨o7, ?_⟩
    obtain ⟨lt8, cd9⟩ : (41 + 4 * (sI (M 32 2)).toNat) < nC ∧ zcd wC (41 + 4 * (sI (M 32 2)).toNat) = 14 := (by decide : ∀ k : Nat, k < 4 → (41 + 4 * k) < nC ∧ zcd wC (41 + 4 * k) = 14) (sI (M 32 2)).toNat (by omega)
    obtain ⟨lt10, cd11, lt12, cd13, lt14, cd15⟩ := nx_ring (41 + 4 * (sI (M 32 2)).toNat) lt8 cd9
    refine sC_Ring_begin hB lt8 cd9 lt_a0 cd_a0 (by omega) (by omega) (by omega) (by omega) (fun  M16 h17 => ?_)
    obtain ⟨hB18, f19, -⟩ := h17
    have hF20 : ∀ j9 : Nat, ¬ (32 ≤ j9 ∧ j9 ≤ 34 ∨ 41 ≤ j9 ∧ j9 ≤ 56) → M16 j9 = M j9 := fun j9 h9 => ((f19 j9 (by omega)).trans (hF0 j9 h9))
    have r21 : M16 32 2 = M 32 2 := congrFun (f19 32 (by omega)) 2
    have q22 : 0 ≤ (M16 32 2) ∧ (M16 32 2) ≤ 4 := BN.at hB18 (rfl : zcd wC 32 = 8) rfl
    intro M23 e24
    have hB25 : BN wC M23 := by rw [e24]; exact BN.up hB18 (rfl : zcd wC 32 = 8) rfl (by omega) (by omega)
    have hF26 : ∀ j9 : Nat, ¬ (32 ≤ j9 ∧ j9 ≤ 34 ∨ 41 ≤ j9 ∧ j9 ≤ 56) → M23 j9 = M j9 := fun j9 h9 => by rw [e24]; exact (zup_row _ _ (by omega)).trans (hF20 j9 h9)
    have r27 : M23 32 2 = ((M16 32 2) + 1) := by rw [e24]; exact zup_s _ _ _ _
    have q28 : 0 ≤ (M23 32 2) ∧ (M23 32 2) ≤ 4 := BN.at hB25 (rfl : zcd wC 32 = 8) rfl
    have s29 : sI ((M23 32 2) - 1) = ((M23 32 2) - 1) := sIo (by omega) (by omega)
    exact hQ _ _ ⟨hB25, hF26, (by omega), trivial⟩
  · skip
    exact hQ _ _ ⟨hB, hF0, (by omega), trivial⟩
set_option maxHeartbeats 4000000 in
set_option maxRecDepth 100000 in
theorem sC_ring {M : zM} {a0 : Int} {a1 : Int} (hB : BN wC M) (v0 : (-2147483648) ≤ a0 ∧ a0 ≤ 2147483647) (v1 : (-2147483648) ≤ a1 ∧ a1 ≤ 2147483647) {Q : Int → zM → Prop} (hQ : ∀ (z : Int) (M1 : zM), BN wC M1 ∧ (∀ j9 : Nat, ¬ (32 ≤ j9 ∧ j9 ≤ 34 ∨ 41 ≤ j9 ∧ j9 ≤ 56) → M1 j9 = M j9) ∧ ((-2147483648) ≤ z ∧ z ≤ 2147483647) ∧ True → Q z M1) : wC_ring a0 a1 M Q := by
  unfold wC_ring
  have hF0 : ∀ j9 : Nat, ¬ (32 ≤ j9 ∧ j9 ≤ 34 ∨ 41 ≤ j9 ∧ j9 ≤ 56) → M j9 = M j9 := fun j9 _ => rfl
  refine sC_isMotor hB (by omega) (fun z1  h2 => ?_)
  obtain ⟨p3, p4, -⟩ := h2
  refine ⟨fun c5 => ?_, fun c5 => ?_⟩
  · skip
    exact hQ _ _ ⟨hB, hF0, (by omega), trivial⟩
  · skip
    refine sC_Strip_has hB (by decide) (rfl : zcd wC 30 = 6) (by omega) (fun z6  h7 => ?_)
    obtain ⟨p8, p9, -⟩ := h7
    refine ⟨fun c10 => ?_, fun c10 => ?_⟩
    · skip
      refine sC_Studio_add hB (by decide) (rfl : zcd wC 30 = 6) (by omega) (by omega) (by omega) (fun z11 M12 h13 => ?_)
      obtain ⟨hB14, f15, p16, -⟩ := h13
      have hF17 : ∀ j9 : Nat, ¬ (32 ≤ j9 ∧ j9 ≤ 34 ∨ 41 ≤ j9 ∧ j9 ≤ 56) → M12 j9 = M j9 := fun j9 h9 => ((f15 j9 (by omega)).trans (hF0 j9 h9))
      exact hQ _ _ ⟨hB14, hF17, (by omega), trivial⟩
    · skip
      exact hQ _ _ ⟨hB, hF0, (by omega), trivial⟩
theorem sC_Studio_find {M : zM} {a0 : Int} (hB : BN wC M) (v0 : -2147483648 ≤ a0 ∧ a0 ≤ 2147483647) {Q : Option Nat → Prop} (hn : (a0 < 0 ∨ M 32 2 ≤ a0) → Q none) (hs : ∀ q, ((q < nC ∧ zcd wC q = 14) ∧ (q = 41 + 4 * a0.toNat ∧ 0 ≤ a0 ∧ a0 < M 32 2 ∧ a0 < 4)) → Q (some q)) : wC_Studio_find a0 M Q := by
  unfold wC_Studio_find
  have b : 0 ≤ M 32 2 ∧ M 32 2 ≤ 4 := BN.at hB (rfl : zcd wC 32 = 8) rfl
  have s1 : sI a0 = a0 := sIo (by omega) (by omega)
  have s2 : sI (M 32 2) = M 32 2 := sIo (by omega) (by omega)
  rw [s1, s2]
  refine ⟨fun c => hn (by omega), fun c => ⟨fun c2 => hn (by omega), fun c2 => ⟨fun c3 => absurd c3 (by omega), fun c3 => ⟨by omega, ?_⟩⟩⟩⟩
  exact hs _ ⟨(by decide : ∀ k : Nat, k < 4 → 41 + 4 * k < nC ∧ zcd wC (41 + 4 * k) = 14) _ (by omega), rfl, c, c2, c3⟩
set_option maxHeartbeats 4000000 in
set_option maxRecDepth 100000 in
theorem sC_Ring_layOver {M : zM} {j : Nat} {a0 : Nat} {a1 : Int} {a2 : Int} (hB : BN wC M) (lt_j : j < nC) (cd_j : zcd wC j = 14) (lt_a0 : a0 < nC) (cd_a0 : zcd wC a0 = 6) (v1 : 0 ≤ a1 ∧ a1 ≤ 23) (v2 : (-2147483648) ≤ a2 ∧ a2 ≤ 2147483647) (p0 : a0 = 30) (p1 : 41 ≤ j) {Q : Int → zM → Prop} (hQ : ∀ (z : Int) (M1 : zM), BN wC M1 ∧ (∀ j9 : Nat, ¬ (j ≤ j9 ∧ j9 ≤ j + 3) → M1 j9 = M j9) ∧ ((-2147483648) ≤ z ∧ z ≤ 2147483647) ∧ True → Q z M1) : wC_Ring_layOver j a0 a1 a2 M Q := by
  unfold wC_Ring_layOver
  have hF0 : ∀ j9 : Nat, ¬ (j ≤ j9 ∧ j9 ≤ j + 3) → M j9 = M j9 := fun j9 _ => rfl
  obtain ⟨lt1, cd2, lt3, cd4, lt5, cd6⟩ := nx_ring j lt_j cd_j
  obtain ⟨lt7, cd8⟩ := nx_strip a0 lt_a0 cd_a0
  refine wL2_of (fun x9 x10 M11 => BN wC M11 ∧ (∀ j9 : Nat, ¬ (j ≤ j9 ∧ j9 ≤ j + 3) → M11 j9 = M j9) ∧ (0 ≤ x10 ∧ x10 ≤ 1000000) ∧ True) (fun x9 x10 M11 => (1000000 - x10).toNat) ⟨hB, hF0, (by omega), trivial⟩ (fun K x9 x10 M11 h15 k16 => ?_)
  obtain ⟨hB12, hF13, i14, -⟩ := h15
  have q17 : 0 ≤ (M11 a0 1) ∧ (M11 a0 1) ≤ 24 := BN.at hB12 cd_a0 rfl
  have s18 : sI x10 = x10 := sIo (by omega) (by omega)
  have s19 : sI (M11 a0 1) = (M11 a0 1) := sIo (by omega) (by omega)
  refine ⟨fun c20 => ?_, fun c20 => ?_⟩
  · skip
    refine sC_Ring_listen hB12 lt_j cd_j (fun  M21 h22 => ?_)
    obtain ⟨hB23, f24, -⟩ := h22
    have hF25 : ∀ j9 : Nat, ¬ (j ≤ j9 ∧ j9 ≤ j + 3) → M21 j9 = M j9 := fun j9 h9 => ((f24 j9 (by omega)).trans (hF13 j9 h9))
    have s26 := sI_R x9
    exact hQ _ _ ⟨hB23, hF25, (by omega), trivial⟩
  · skip
    refine sC_Strip_has hB12 lt1 cd2 (by omega) (fun z27  h28 => ?_)
    obtain ⟨p29, p30, -⟩ := h28
    refine ⟨fun c31 => ?_, fun c31 => ?_⟩
    · skip
      refine sC_Ring_listen hB12 lt_j cd_j (fun  M32 h33 => ?_)
      obtain ⟨hB34, f35, -⟩ := h33
      have hF36 : ∀ j9 : Nat, ¬ (j ≤ j9 ∧ j9 ≤ j + 3) → M32 j9 = M j9 := fun j9 h9 => ((f35 j9 (by omega)).trans (hF13 j9 h9))
      have s37 := sI_R x9
      exact hQ _ _ ⟨hB34, hF36, (by omega), trivial⟩
    · skip
      have s38 : sI (a1 + x10) = (a1 + x10) := sIo (by omega) (by omega)
      have o39 : 0 ≤ (sI (a1 + x10)) ∧ (sI (a1 + x10)) < 24 := by omega
      refine ⟨o39, ?_⟩
      have q40 : (-2147483648) ≤ (M11 (j + 2) (sI (a1 + x10)).toNat) ∧ (M11 (j + 2) (sI (a1 + x10)).toNat) ≤ 2147483647 := BN.at hB12 cd4 rfl
      have s41 : sI a2 = a2 := sIo (by omega) (by omega)
      refine pJ1_dup ?_
      refine ⟨fun c42 => ?_, fun c42 => ?_⟩
      · skip
        have o43 : 0 ≤ (sI x10) ∧ (sI x10) < 24 := by omega
        refine ⟨o43, ?_⟩
        have q44 : (-2147483648) ≤ (M11 (a0 + 1) (sI x10).toNat) ∧ (M11 (a0 + 1) (sI x10).toNat) ≤ 2147483647 := BN.at hB12 cd8 rfl
        have s45 : sI (M11 (a0 + 1) (sI x10).toNat) = (M11 (a0 + 1) (sI x10).toNat) := sIo (by omega) (by omega)
        have o46 : 0 ≤ (sI (a1 + x10)) ∧ (sI (a1 + x10)) < 24 := by omega
        refine ⟨o46, ?_⟩
        intro M47 e48
        have hB49 : BN wC M47 := by rw [e48]; exact BN.up hB12 cd4 rfl (by omega) (by omega)
        have hF50 : ∀ j9 : Nat, ¬ (j ≤ j9 ∧ j9 ≤ j + 3) → M47 j9 = M j9 := fun j9 h9 => by rw [e48]; exact (zup_row _ _ (by omega)).trans (hF13 j9 h9)
        have s51 : sI (M11 (j + 2) (sI (a1 + x10)).toNat) = (M11 (j + 2) (sI (a1 + x10)).toNat) := sIo (by omega) (by omega)
        refine ⟨fun c52 => ?_, fun c52 => ?_⟩
        · skip
          exact k16 _ _ _ ⟨hB49, hF50, (by omega), trivial⟩ (by omega)
        · skip
          exact k16 _ _ _ ⟨hB49, hF50, (by omega), trivial⟩ (by omega)
      · skip
        have o53 : 0 ≤ (sI x10) ∧ (sI x10) < 24 := by omega
        refine ⟨o53, ?_⟩
        have q54 : (-2147483648) ≤ (M11 (a0 + 1) (sI x10).toNat) ∧ (M11 (a0 + 1) (sI x10).toNat) ≤ 2147483647 := BN.at hB12 cd8 rfl
        have q55 := orI_R (M11 (j + 2) (sI (a1 + x10)).toNat) (M11 (a0 + 1) (sI x10).toNat)
        have s56 : sI (orI (M11 (j + 2) (sI (a1 + x10)).toNat) (M11 (a0 + 1) (sI x10).toNat)) = (orI (M11 (j + 2) (sI (a1 + x10)).toNat) (M11 (a0 + 1) (sI x10).toNat)) := sIo (by omega) (by omega)
        have o57 : 0 ≤ (sI (a1 + x10)) ∧ (sI (a1 + x10)) < 24 := by omega
        refine ⟨o57, ?_⟩
        intro M58 e59
        have hB60 : BN wC M58 := by rw [e59]; exact BN.up hB12 cd4 rfl (by omega) (by omega)
        have hF61 : ∀ j9 : Nat, ¬ (j ≤ j9 ∧ j9 ≤ j + 3) → M58 j9 = M j9 := fun j9 h9 => by rw [e59]; exact (zup_row _ _ (by omega)).trans (hF13 j9 h9)
        have s62 : sI (M11 (j + 2) (sI (a1 + x10)).toNat) = (M11 (j + 2) (sI (a1 + x10)).toNat) := sIo (by omega) (by omega)
        refine ⟨fun c63 => ?_, fun c63 => ?_⟩
        · skip
          exact k16 _ _ _ ⟨hB60, hF61, (by omega), trivial⟩ (by omega)
        · skip
          exact k16 _ _ _ ⟨hB60, hF61, (by omega), trivial⟩ (by omega)
set_option maxHeartbeats 4000000 in
set_option maxRecDepth 100000 in
theorem sC_over {M : zM} {a0 : Int} {a1 : Int} {a2 : Int} (hB : BN wC M) (v0 : (-2147483648) ≤ a0 ∧ a0 ≤ 2147483647) (v1 : (-2147483648) ≤ a1 ∧ a1 ≤ 2147483647) (v2 : (-2147483648) ≤ a2 ∧ a2 ≤ 2147483647) {Q : Int → zM → Prop} (hQ : ∀ (z : Int) (M1 : zM), BN wC M1 ∧ (∀ j9 : Nat, ¬ (32 ≤ j9 ∧ j9 ≤ 34 ∨ 41 ≤ j9 ∧ j9 ≤ 56) → M1 j9 = M j9) ∧ ((-2147483648) ≤ z ∧ z ≤ 2147483647) ∧ True → Q z M1) : wC_over a0 a1 a2 M Q := by
  unfold wC_over
  have hF0 : ∀ j9 : Nat, ¬ (32 ≤ j9 ∧ j9 ≤ 34 ∨ 41 ≤ j9 ∧ j9 ≤ 56) → M j9 = M j9 := fun j9 _ => rfl
  refine sC_Studio_find hB (by omega) (fun h2 => ?_) (fun q1 h2 => ?_)
  · skip
    refine ⟨fun _ => ?_, fun q9 h9 => nomatch h9⟩
    exact hQ _ _ ⟨hB, hF0, (by omega), trivial⟩
  · skip
    refine ⟨(fun h9 => nomatch h9), fun q9 h9 => ?_⟩
    obtain rfl := Option.some.inj h9
    obtain ⟨⟨lt3, cd4⟩, h2⟩ := h2
    refine ⟨⟨lt3, cd4⟩, ?_⟩
    obtain ⟨lt5, cd6, lt7, cd8, lt9, cd10⟩ := nx_ring q1 lt3 cd4
    refine sC_Strip_has hB lt5 cd6 (by omega) (fun z11  h12 => ?_)
    obtain ⟨p13, p14, -⟩ := h12
    refine ⟨fun c15 => ?_, fun c15 => ?_⟩
    · skip
      exact hQ _ _ ⟨hB, hF0, (by omega), trivial⟩
    · skip
      refine sC_within hB (by omega) (by omega) (by omega) (fun z16  h17 => ?_)
      obtain ⟨p18, p19, -⟩ := h17
      refine ⟨fun c20 => ?_, fun c20 => ?_⟩
      · skip
        exact hQ _ _ ⟨hB, hF0, (by omega), trivial⟩
      · skip
        have q21 : 0 ≤ (M 30 1) ∧ (M 30 1) ≤ 24 := BN.at hB (rfl : zcd wC 30 = 6) rfl
        have s22 : sI (M 30 1) = (M 30 1) := sIo (by omega) (by omega)
        refine ⟨fun c23 => ?_, fun c23 => ?_⟩
        · skip
          have s24 : sI a2 = a2 := sIo (by omega) (by omega)
          refine ⟨fun c25 => ?_, fun c25 => ?_⟩
          · skip
            refine sC_Ring_layOver hB lt3 cd4 (by decide) (rfl : zcd wC 30 = 6) (by omega) (by omega) (by omega) (by omega) (fun z26 M27 h28 => ?_)
            obtain ⟨hB29, f30, p31, -⟩ := h28
            have hF32 : ∀ j9 : Nat, ¬ (32 ≤ j9 ∧ j9 ≤ 34 ∨ 41 ≤ j9 ∧ j9 ≤ 56) → M27 j9 = M j9 := fun j9 h9 => ((f30 j9 (by omega)).trans (hF0 j9 h9))
            exact hQ _ _ ⟨hB29, hF32, (by omega), trivial⟩
          · skip
            refine sC_Ring_layOver hB lt3 cd4 (by decide) (rfl : zcd wC 30 = 6) (by omega) (by omega) (by omega) (by omega) (fun z33 M34 h35 => ?_)
            obtain ⟨hB36, f37, p38, -⟩ := h35
            have hF39 : ∀ j9 : Nat, ¬ (32 ≤ j9 ∧ j9 ≤ 34 ∨ 41 ≤ j9 ∧ j9 ≤ 56) → M34 j9 = M j9 := fun j9 h9 => ((f37 j9 (by omega)).trans (hF0 j9 h9))
            exact hQ _ _ ⟨hB36, hF39, (by omega), trivial⟩
        · skip
          exact hQ _ _ ⟨hB, hF0, (by omega), trivial⟩
set_option maxHeartbeats 4000000 in
set_option maxRecDepth 100000 in
theorem sC_set {M : zM} {a0 : Int} {a1 : Int} {a2 : Int} (hB : BN wC M) (v0 : (-2147483648) ≤ a0 ∧ a0 ≤ 2147483647) (v1 : (-2147483648) ≤ a1 ∧ a1 ≤ 2147483647) (v2 : (-2147483648) ≤ a2 ∧ a2 ≤ 2147483647) {Q : Int → zM → Prop} (hQ : ∀ (z : Int) (M1 : zM), BN wC M1 ∧ (∀ j9 : Nat, ¬ (32 ≤ j9 ∧ j9 ≤ 34 ∨ 41 ≤ j9 ∧ j9 ≤ 56) → M1 j9 = M j9) ∧ ((-2147483648) ≤ z ∧ z ≤ 2147483647) ∧ True → Q z M1) : wC_set a0 a1 a2 M Q := by
  unfold wC_set
  have hF0 : ∀ j9 : Nat, ¬ (32 ≤ j9 ∧ j9 ≤ 34 ∨ 41 ≤ j9 ∧ j9 ≤ 56) → M j9 = M j9 := fun j9 _ => rfl
  refine sC_Studio_find hB (by omega) (fun h2 => ?_) (fun q1 h2 => ?_)
  · skip
    refine ⟨fun _ => ?_, fun q9 h9 => nomatch h9⟩
    exact hQ _ _ ⟨hB, hF0, (by omega), trivial⟩
  · skip
    refine ⟨(fun h9 => nomatch h9), fun q9 h9 => ?_⟩
    obtain rfl := Option.some.inj h9
    obtain ⟨⟨lt3, cd4⟩, h2⟩ := h2
    refine ⟨⟨lt3, cd4⟩, ?_⟩
    obtain ⟨lt5, cd6, lt7, cd8, lt9, cd10⟩ := nx_ring q1 lt3 cd4
    have s11 : sI a1 = a1 := sIo (by omega) (by omega)
    refine pJ0_dup ?_
    refine ⟨fun c12 => ?_, fun c12 => ?_⟩
    · skip
      refine ⟨fun c13 => ?_, fun c13 => ?_⟩
      · skip
        exact hQ _ _ ⟨hB, hF0, (by omega), trivial⟩
      · skip
        refine sC_Strip_has hB lt5 cd6 (by omega) (fun z14  h15 => ?_)
        obtain ⟨p16, p17, -⟩ := h15
        refine ⟨fun c18 => ?_, fun c18 => ?_⟩
        · skip
          exact hQ _ _ ⟨hB, hF0, (by omega), trivial⟩
        · skip
          have q19 : 0 ≤ (M q1 2) ∧ (M q1 2) ≤ 23 := BN.at hB cd4 rfl
          intro M20 e21
          have hB22 : BN wC M20 := by rw [e21]; exact BN.up hB cd4 rfl (by omega) (by omega)
          have hF23 : ∀ j9 : Nat, ¬ (32 ≤ j9 ∧ j9 ≤ 34 ∨ 41 ≤ j9 ∧ j9 ≤ 56) → M20 j9 = M j9 := fun j9 h9 => by rw [e21]; exact (zup_row _ _ (by omega)).trans (hF0 j9 h9)
          have s24 : sI (M q1 2) = (M q1 2) := sIo (by omega) (by omega)
          exact hQ _ _ ⟨hB22, hF23, (by omega), trivial⟩
    · skip
      refine sC_isMotor hB (by omega) (fun z25  h26 => ?_)
      obtain ⟨p27, p28, -⟩ := h26
      refine ⟨fun c29 => ?_, fun c29 => ?_⟩
      · skip
        refine ⟨fun c30 => ?_, fun c30 => ?_⟩
        · skip
          exact hQ _ _ ⟨hB, hF0, (by omega), trivial⟩
        · skip
          refine sC_Strip_has hB lt5 cd6 (by omega) (fun z31  h32 => ?_)
          obtain ⟨p33, p34, -⟩ := h32
          refine ⟨fun c35 => ?_, fun c35 => ?_⟩
          · skip
            exact hQ _ _ ⟨hB, hF0, (by omega), trivial⟩
          · skip
            have q36 : 0 ≤ (M q1 2) ∧ (M q1 2) ≤ 23 := BN.at hB cd4 rfl
            intro M37 e38
            have hB39 : BN wC M37 := by rw [e38]; exact BN.up hB cd4 rfl (by omega) (by omega)
            have hF40 : ∀ j9 : Nat, ¬ (32 ≤ j9 ∧ j9 ≤ 34 ∨ 41 ≤ j9 ∧ j9 ≤ 56) → M37 j9 = M j9 := fun j9 h9 => by rw [e38]; exact (zup_row _ _ (by omega)).trans (hF0 j9 h9)
            have s41 : sI (M q1 2) = (M q1 2) := sIo (by omega) (by omega)
            exact hQ _ _ ⟨hB39, hF40, (by omega), trivial⟩
      · skip
        have q42 : 0 ≤ (M q1 1) ∧ (M q1 1) ≤ 1 := BN.at hB cd4 rfl
        intro M43 e44
        have hB45 : BN wC M43 := by rw [e44]; exact BN.up hB cd4 rfl (by omega) (by omega)
        have hF46 : ∀ j9 : Nat, ¬ (32 ≤ j9 ∧ j9 ≤ 34 ∨ 41 ≤ j9 ∧ j9 ≤ 56) → M43 j9 = M j9 := fun j9 h9 => by rw [e44]; exact (zup_row _ _ (by omega)).trans (hF0 j9 h9)
        have s47 : sI (M q1 1) = (M q1 1) := sIo (by omega) (by omega)
        exact hQ _ _ ⟨hB45, hF46, (by omega), trivial⟩
set_option maxHeartbeats 4000000 in
set_option maxRecDepth 100000 in
theorem sC_bitCount {M : zM} {a0 : Int} (hB : BN wC M) (v0 : (-2147483648) ≤ a0 ∧ a0 ≤ 2147483647) {Q : Int → Prop} (hQ : ∀ (z : Int), ((-2147483648) ≤ z ∧ z ≤ 2147483647) ∧ True → Q z) : wC_bitCount a0 M Q := by
  unfold wC_bitCount
  have q1 := ushrI_R a0 1
  have q2 := andI_br (ushrI a0 1) (c := 1431655765) (by decide) (by decide)
  have q3 := andI_br (a0 - (andI (ushrI a0 1) 1431655765)) (c := 858993459) (by decide) (by decide)
  have q4 := ushrI_R (a0 - (andI (ushrI a0 1) 1431655765)) 2
  have q5 := andI_br (ushrI (a0 - (andI (ushrI a0 1) 1431655765)) 2) (c := 858993459) (by decide) (by decide)
  intro t6 e7
  have q8 := ushrI_R t6 4
  have q9 := andI_br (t6 + (ushrI t6 4)) (c := 252645135) (by decide) (by decide)
  have q10 := ushrI_R (andI (t6 + (ushrI t6 4)) 252645135) 8
  intro t11 e12
  have q13 := ushrI_R t11 16
  have q14 := andI_br (t11 + (ushrI t11 16)) (c := 63) (by decide) (by decide)
  exact hQ _ ⟨(by omega), trivial⟩
set_option maxHeartbeats 4000000 in
set_option maxRecDepth 100000 in
theorem sC_Ring_putHead {M : zM} {j : Nat} {a0 : Int} {a1 : Int} (hB : BN wC M) (lt_j : j < nC) (cd_j : zcd wC j = 14) (v0 : (-2147483648) ≤ a0 ∧ a0 ≤ 2147483647) (v1 : (-2147483648) ≤ a1 ∧ a1 ≤ 2147483647) {Q : Int → zM → Prop} (hQ : ∀ (z : Int) (M1 : zM), BN wC M1 ∧ (∀ j9 : Nat, ¬ (j ≤ j9 ∧ j9 ≤ j + 3) → M1 j9 = M j9) ∧ ((-2147483648) ≤ z ∧ z ≤ 2147483647) ∧ True → Q z M1) : wC_Ring_putHead j a0 a1 M Q := by
  unfold wC_Ring_putHead
  have hF0 : ∀ j9 : Nat, ¬ (j ≤ j9 ∧ j9 ≤ j + 3) → M j9 = M j9 := fun j9 _ => rfl
  obtain ⟨lt1, cd2, lt3, cd4, lt5, cd6⟩ := nx_ring j lt_j cd_j
  have s7 : sI a1 = a1 := sIo (by omega) (by omega)
  refine pJ1_dup ?_
  refine ⟨fun c8 => ?_, fun c8 => ?_⟩
  · skip
    have q9 : (-2147483648) ≤ (M j 3) ∧ (M j 3) ≤ 2147483647 := BN.at hB cd_j rfl
    have q10 := shlI_R 1 a0
    have q11 := xorI_R (shlI 1 a0) (-1)
    have q12 := andI_R (M j 3) (xorI (shlI 1 a0) (-1))
    have s13 : sI (andI (M j 3) (xorI (shlI 1 a0) (-1))) = (andI (M j 3) (xorI (shlI 1 a0) (-1))) := sIo (by omega) (by omega)
    refine ⟨fun c14 => ?_, fun c14 => ?_⟩
    · skip
      intro M15 e16
      have hB17 : BN wC M15 := by rw [e16]; exact BN.up hB cd_j rfl (by omega) (by omega)
      have hF18 : ∀ j9 : Nat, ¬ (j ≤ j9 ∧ j9 ≤ j + 3) → M15 j9 = M j9 := fun j9 h9 => by rw [e16]; exact (zup_row _ _ (by omega)).trans (hF0 j9 h9)
      refine sC_Ring_listen hB17 lt_j cd_j (fun  M19 h20 => ?_)
      obtain ⟨hB21, f22, -⟩ := h20
      have hF23 : ∀ j9 : Nat, ¬ (j ≤ j9 ∧ j9 ≤ j + 3) → M19 j9 = M j9 := fun j9 h9 => ((f22 j9 (by omega)).trans (hF18 j9 h9))
      have q24 : (-2147483648) ≤ (M19 j 3) ∧ (M19 j 3) ≤ 2147483647 := BN.at hB21 cd_j rfl
      refine sC_bitCount hB21 (by omega) (fun z25  h26 => ?_)
      obtain ⟨p27, -⟩ := h26
      exact hQ _ _ ⟨hB21, hF23, (by omega), trivial⟩
    · skip
      exact hQ _ _ ⟨hB, hF0, (by omega), trivial⟩
  · skip
    have q28 : (-2147483648) ≤ (M j 3) ∧ (M j 3) ≤ 2147483647 := BN.at hB cd_j rfl
    have q29 := shlI_R 1 a0
    have q30 := orI_R (M j 3) (shlI 1 a0)
    have s31 : sI (orI (M j 3) (shlI 1 a0)) = (orI (M j 3) (shlI 1 a0)) := sIo (by omega) (by omega)
    refine ⟨fun c32 => ?_, fun c32 => ?_⟩
    · skip
      intro M33 e34
      have hB35 : BN wC M33 := by rw [e34]; exact BN.up hB cd_j rfl (by omega) (by omega)
      have hF36 : ∀ j9 : Nat, ¬ (j ≤ j9 ∧ j9 ≤ j + 3) → M33 j9 = M j9 := fun j9 h9 => by rw [e34]; exact (zup_row _ _ (by omega)).trans (hF0 j9 h9)
      refine sC_Ring_listen hB35 lt_j cd_j (fun  M37 h38 => ?_)
      obtain ⟨hB39, f40, -⟩ := h38
      have hF41 : ∀ j9 : Nat, ¬ (j ≤ j9 ∧ j9 ≤ j + 3) → M37 j9 = M j9 := fun j9 h9 => ((f40 j9 (by omega)).trans (hF36 j9 h9))
      have q42 : (-2147483648) ≤ (M37 j 3) ∧ (M37 j 3) ≤ 2147483647 := BN.at hB39 cd_j rfl
      refine sC_bitCount hB39 (by omega) (fun z43  h44 => ?_)
      obtain ⟨p45, -⟩ := h44
      exact hQ _ _ ⟨hB39, hF41, (by omega), trivial⟩
    · skip
      exact hQ _ _ ⟨hB, hF0, (by omega), trivial⟩
set_option maxHeartbeats 4000000 in
set_option maxRecDepth 100000 in
theorem sC_head {M : zM} {a0 : Int} {a1 : Int} {a2 : Int} (hB : BN wC M) (v0 : (-2147483648) ≤ a0 ∧ a0 ≤ 2147483647) (v1 : (-2147483648) ≤ a1 ∧ a1 ≤ 2147483647) (v2 : (-2147483648) ≤ a2 ∧ a2 ≤ 2147483647) {Q : Int → zM → Prop} (hQ : ∀ (z : Int) (M1 : zM), BN wC M1 ∧ (∀ j9 : Nat, ¬ (32 ≤ j9 ∧ j9 ≤ 34 ∨ 41 ≤ j9 ∧ j9 ≤ 56) → M1 j9 = M j9) ∧ ((-2147483648) ≤ z ∧ z ≤ 2147483647) ∧ True → Q z M1) : wC_head a0 a1 a2 M Q := by
  unfold wC_head
  have hF0 : ∀ j9 : Nat, ¬ (32 ≤ j9 ∧ j9 ≤ 34 ∨ 41 ≤ j9 ∧ j9 ≤ 56) → M j9 = M j9 := fun j9 _ => rfl
  refine sC_Studio_find hB (by omega) (fun h2 => ?_) (fun q1 h2 => ?_)
  · skip
    refine ⟨fun _ => ?_, fun q9 h9 => nomatch h9⟩
    exact hQ _ _ ⟨hB, hF0, (by omega), trivial⟩
  · skip
    refine ⟨(fun h9 => nomatch h9), fun q9 h9 => ?_⟩
    obtain rfl := Option.some.inj h9
    obtain ⟨⟨lt3, cd4⟩, h2⟩ := h2
    refine ⟨⟨lt3, cd4⟩, ?_⟩
    obtain ⟨lt5, cd6, lt7, cd8, lt9, cd10⟩ := nx_ring q1 lt3 cd4
    refine sC_within hB (by omega) (by omega) (by omega) (fun z11  h12 => ?_)
    obtain ⟨p13, p14, -⟩ := h12
    refine ⟨fun c15 => ?_, fun c15 => ?_⟩
    · skip
      refine sC_Ring_putHead hB lt3 cd4 (by omega) (by omega) (fun z16 M17 h18 => ?_)
      obtain ⟨hB19, f20, p21, -⟩ := h18
      have hF22 : ∀ j9 : Nat, ¬ (32 ≤ j9 ∧ j9 ≤ 34 ∨ 41 ≤ j9 ∧ j9 ≤ 56) → M17 j9 = M j9 := fun j9 h9 => ((f20 j9 (by omega)).trans (hF0 j9 h9))
      exact hQ _ _ ⟨hB19, hF22, (by omega), trivial⟩
    · skip
      exact hQ _ _ ⟨hB, hF0, (by omega), trivial⟩
theorem sC_Studio_motorOf {M : zM} {a0 : Int} (hB : BN wC M) (v0 : -2147483648 ≤ a0 ∧ a0 ≤ 2147483647) {Q : Option Nat → Prop} (hs : ∀ q, ((q < nC ∧ zcd wC q = 11) ∧ ((q = 35 ∧ a0 = 0) ∨ (q = 38 ∧ a0 ≠ 0))) → Q (some q)) : wC_Studio_motorOf a0 M Q := by
  unfold wC_Studio_motorOf
  have s1 : sI a0 = a0 := sIo (by omega) (by omega)
  rw [s1]
  exact ⟨fun c => hs _ ⟨by decide, Or.inr ⟨rfl, c⟩⟩, fun c => hs _ ⟨by decide, Or.inl ⟨rfl, c⟩⟩⟩
set_option maxHeartbeats 4000000 in
set_option maxRecDepth 100000 in
theorem sC_Motor_tell {M : zM} {j : Nat} {a0 : Int} {a1 : Int} (hB : BN wC M) (lt_j : j < nC) (cd_j : zcd wC j = 11) (v0 : 0 ≤ a0 ∧ a0 ≤ 5000) (v1 : (-9) ≤ a1 ∧ a1 ≤ 9) {Q : Int → zM → Prop} (hQ : ∀ (z : Int) (M1 : zM), BN wC M1 ∧ (∀ j9 : Nat, ¬ (j ≤ j9 ∧ j9 ≤ j + 2) → M1 j9 = M j9) ∧ (0 ≤ z ∧ z ≤ 1) ∧ True → Q z M1) : wC_Motor_tell j a0 a1 M Q := by
  unfold wC_Motor_tell
  have hF0 : ∀ j9 : Nat, ¬ (j ≤ j9 ∧ j9 ≤ j + 2) → M j9 = M j9 := fun j9 _ => rfl
  obtain ⟨lt1, cd2, lt3, cd4⟩ := nx_motor j lt_j cd_j
  have b9 : 0 ≤ M j 2 ∧ M j 2 ≤ 12 := BN.at hB cd_j rfl
  refine pL1_of (fun x5 => (0 ≤ x5 ∧ x5 ≤ 1000000) ∧ (x5 ≤ M j 2) ∧ True) (fun x5 => (1000000 - x5).toNat) ⟨(by omega), (by omega), trivial⟩ (fun K x5 h8 k9 => ?_)
  obtain ⟨i6, i7, -⟩ := h8
  have q10 : 0 ≤ (M j 2) ∧ (M j 2) ≤ 12 := BN.at hB cd_j rfl
  have s11 : sI x5 = x5 := sIo (by omega) (by omega)
  have s12 : sI (M j 2) = (M j 2) := sIo (by omega) (by omega)
  refine pJ0_dup ?_
  refine ⟨fun c13 => ?_, fun c13 => ?_⟩
  · skip
    refine pJ0_dup ?_
    refine ⟨fun c15 => ?_, fun c15 => ?_⟩
    · skip
      refine ⟨fun c17 => ?_, fun c17 => ?_⟩
      · skip
        refine wL1_of (fun x19 M20 => BN wC M20 ∧ (∀ j9 : Nat, ¬ (j ≤ j9 ∧ j9 ≤ j + 2) → M20 j9 = M j9) ∧ (0 ≤ x19 ∧ x19 ≤ 11) ∧ (M20 j 2 = M j 2) ∧ True) (fun x19 M20 => (x19 + 1).toNat) ⟨hB, hF0, (by omega), (by omega), trivial⟩ (fun K x19 M20 h25 k26 => ?_)
        obtain ⟨hB21, hF22, i23, i24, -⟩ := h25
        have s27 : sI x19 = x19 := sIo (by omega) (by omega)
        have s28 : sI x5 = x5 := sIo (by omega) (by omega)
        refine ⟨fun c29 => ?_, fun c29 => ?_⟩
        · skip
          have o30 : 0 ≤ (sI x5) ∧ (sI x5) < 12 := by omega
          refine ⟨o30, ?_⟩
          intro M31 e32
          have hB33 : BN wC M31 := by rw [e32]; exact BN.up hB21 cd2 rfl (by omega) (by omega)
          have hF34 : ∀ j9 : Nat, ¬ (j ≤ j9 ∧ j9 ≤ j + 2) → M31 j9 = M j9 := fun j9 h9 => by rw [e32]; exact (zup_row _ _ (by omega)).trans (hF22 j9 h9)
          have r35 : M31 j 2 = M20 j 2 := by rw [e32]; exact zup_n _ _ (by omega)
          have o36 : 0 ≤ (sI x5) ∧ (sI x5) < 12 := by omega
          refine ⟨o36, ?_⟩
          intro M37 e38
          have hB39 : BN wC M37 := by rw [e38]; exact BN.up hB33 cd4 rfl (by omega) (by omega)
          have hF40 : ∀ j9 : Nat, ¬ (j ≤ j9 ∧ j9 ≤ j + 2) → M37 j9 = M j9 := fun j9 h9 => by rw [e38]; exact (zup_row _ _ (by omega)).trans (hF34 j9 h9)
          have r41 : M37 j 2 = M31 j 2 := by rw [e38]; exact zup_n _ _ (by omega)
          have q42 : 0 ≤ (M37 j 2) ∧ (M37 j 2) ≤ 12 := BN.at hB39 cd_j rfl
          intro M43 e44
          have hB45 : BN wC M43 := by rw [e44]; exact BN.up hB39 cd_j rfl (by omega) (by omega)
          have hF46 : ∀ j9 : Nat, ¬ (j ≤ j9 ∧ j9 ≤ j + 2) → M43 j9 = M j9 := fun j9 h9 => by rw [e44]; exact (zup_row _ _ (by omega)).trans (hF40 j9 h9)
          have r47 : M43 j 2 = ((M37 j 2) + 1) := by rw [e44]; exact zup_s _ _ _ _
          exact hQ _ _ ⟨hB45, hF46, (by omega), trivial⟩
        · skip
          have s48 : sI (x19 - 1) = (x19 - 1) := sIo (by omega) (by omega)
          have o49 : 0 ≤ (sI (x19 - 1)) ∧ (sI (x19 - 1)) < 12 := by omega
          refine ⟨o49, ?_⟩
          have q50 : 0 ≤ (M20 (j + 1) (sI (x19 - 1)).toNat) ∧ (M20 (j + 1) (sI (x19 - 1)).toNat) ≤ 5000 := BN.at hB21 cd2 rfl
          have o51 : 0 ≤ (sI x19) ∧ (sI x19) < 12 := by omega
          refine ⟨o51, ?_⟩
          intro M52 e53
          have hB54 : BN wC M52 := by rw [e53]; exact BN.up hB21 cd2 rfl (by omega) (by omega)
          have hF55 : ∀ j9 : Nat, ¬ (j ≤ j9 ∧ j9 ≤ j + 2) → M52 j9 = M j9 := fun j9 h9 => by rw [e53]; exact (zup_row _ _ (by omega)).trans (hF22 j9 h9)
          have r56 : M52 j 2 = M20 j 2 := by rw [e53]; exact zup_n _ _ (by omega)
          have o57 : 0 ≤ (sI (x19 - 1)) ∧ (sI (x19 - 1)) < 12 := by omega
          refine ⟨o57, ?_⟩
          have q58 : (-9) ≤ (M52 (j + 2) (sI (x19 - 1)).toNat) ∧ (M52 (j + 2) (sI (x19 - 1)).toNat) ≤ 9 := BN.at hB54 cd4 rfl
          have o59 : 0 ≤ (sI x19) ∧ (sI x19) < 12 := by omega
          refine ⟨o59, ?_⟩
          intro M60 e61
          have hB62 : BN wC M60 := by rw [e61]; exact BN.up hB54 cd4 rfl (by omega) (by omega)
          have hF63 : ∀ j9 : Nat, ¬ (j ≤ j9 ∧ j9 ≤ j + 2) → M60 j9 = M j9 := fun j9 h9 => by rw [e61]; exact (zup_row _ _ (by omega)).trans (hF55 j9 h9)
          have r64 : M60 j 2 = M52 j 2 := by rw [e61]; exact zup_n _ _ (by omega)
          exact k26 _ _ ⟨hB62, hF63, (by omega), (by omega), trivial⟩ (by omega)
      · skip
        exact hQ _ _ ⟨hB, hF0, (by omega), trivial⟩
    · skip
      have o65 : 0 ≤ (sI x5) ∧ (sI x5) < 12 := by omega
      refine ⟨o65, ?_⟩
      have q66 : 0 ≤ (M (j + 1) (sI x5).toNat) ∧ (M (j + 1) (sI x5).toNat) ≤ 5000 := BN.at hB cd2 rfl
      have s67 : sI (M (j + 1) (sI x5).toNat) = (M (j + 1) (sI x5).toNat) := sIo (by omega) (by omega)
      have s68 : sI a0 = a0 := sIo (by omega) (by omega)
      refine ⟨fun c69 => ?_, fun c69 => ?_⟩
      · skip
        refine ⟨fun c71 => ?_, fun c71 => ?_⟩
        · skip
          refine wL1_of (fun x73 M74 => BN wC M74 ∧ (∀ j9 : Nat, ¬ (j ≤ j9 ∧ j9 ≤ j + 2) → M74 j9 = M j9) ∧ (0 ≤ x73 ∧ x73 ≤ 11) ∧ (M74 j 2 = M j 2) ∧ True) (fun x73 M74 => (x73 + 1).toNat) ⟨hB, hF0, (by omega), (by omega), trivial⟩ (fun K x73 M74 h79 k80 => ?_)
          obtain ⟨hB75, hF76, i77, i78, -⟩ := h79
          have s81 : sI x73 = x73 := sIo (by omega) (by omega)
          have s82 : sI x5 = x5 := sIo (by omega) (by omega)
          refine ⟨fun c83 => ?_, fun c83 => ?_⟩
          · skip
            have o84 : 0 ≤ (sI x5) ∧ (sI x5) < 12 := by omega
            refine ⟨o84, ?_⟩
            intro M85 e86
            have hB87 : BN wC M85 := by rw [e86]; exact BN.up hB75 cd2 rfl (by omega) (by omega)
            have hF88 : ∀ j9 : Nat, ¬ (j ≤ j9 ∧ j9 ≤ j + 2) → M85 j9 = M j9 := fun j9 h9 => by rw [e86]; exact (zup_row _ _ (by omega)).trans (hF76 j9 h9)
            have r89 : M85 j 2 = M74 j 2 := by rw [e86]; exact zup_n _ _ (by omega)
            have o90 : 0 ≤ (sI x5) ∧ (sI x5) < 12 := by omega
            refine ⟨o90, ?_⟩
            intro M91 e92
            have hB93 : BN wC M91 := by rw [e92]; exact BN.up hB87 cd4 rfl (by omega) (by omega)
            have hF94 : ∀ j9 : Nat, ¬ (j ≤ j9 ∧ j9 ≤ j + 2) → M91 j9 = M j9 := fun j9 h9 => by rw [e92]; exact (zup_row _ _ (by omega)).trans (hF88 j9 h9)
            have r95 : M91 j 2 = M85 j 2 := by rw [e92]; exact zup_n _ _ (by omega)
            have q96 : 0 ≤ (M91 j 2) ∧ (M91 j 2) ≤ 12 := BN.at hB93 cd_j rfl
            intro M97 e98
            have hB99 : BN wC M97 := by rw [e98]; exact BN.up hB93 cd_j rfl (by omega) (by omega)
            have hF100 : ∀ j9 : Nat, ¬ (j ≤ j9 ∧ j9 ≤ j + 2) → M97 j9 = M j9 := fun j9 h9 => by rw [e98]; exact (zup_row _ _ (by omega)).trans (hF94 j9 h9)
            have r101 : M97 j 2 = ((M91 j 2) + 1) := by rw [e98]; exact zup_s _ _ _ _
            exact hQ _ _ ⟨hB99, hF100, (by omega), trivial⟩
          · skip
            have s102 : sI (x73 - 1) = (x73 - 1) := sIo (by omega) (by omega)
            have o103 : 0 ≤ (sI (x73 - 1)) ∧ (sI (x73 - 1)) < 12 := by omega
            refine ⟨o103, ?_⟩
            have q104 : 0 ≤ (M74 (j + 1) (sI (x73 - 1)).toNat) ∧ (M74 (j + 1) (sI (x73 - 1)).toNat) ≤ 5000 := BN.at hB75 cd2 rfl
            have o105 : 0 ≤ (sI x73) ∧ (sI x73) < 12 := by omega
            refine ⟨o105, ?_⟩
            intro M106 e107
            have hB108 : BN wC M106 := by rw [e107]; exact BN.up hB75 cd2 rfl (by omega) (by omega)
            have hF109 : ∀ j9 : Nat, ¬ (j ≤ j9 ∧ j9 ≤ j + 2) → M106 j9 = M j9 := fun j9 h9 => by rw [e107]; exact (zup_row _ _ (by omega)).trans (hF76 j9 h9)
            have r110 : M106 j 2 = M74 j 2 := by rw [e107]; exact zup_n _ _ (by omega)
            have o111 : 0 ≤ (sI (x73 - 1)) ∧ (sI (x73 - 1)) < 12 := by omega
            refine ⟨o111, ?_⟩
            have q112 : (-9) ≤ (M106 (j + 2) (sI (x73 - 1)).toNat) ∧ (M106 (j + 2) (sI (x73 - 1)).toNat) ≤ 9 := BN.at hB108 cd4 rfl
            have o113 : 0 ≤ (sI x73) ∧ (sI x73) < 12 := by omega
            refine ⟨o113, ?_⟩
            intro M114 e115
            have hB116 : BN wC M114 := by rw [e115]; exact BN.up hB108 cd4 rfl (by omega) (by omega)
            have hF117 : ∀ j9 : Nat, ¬ (j ≤ j9 ∧ j9 ≤ j + 2) → M114 j9 = M j9 := fun j9 h9 => by rw [e115]; exact (zup_row _ _ (by omega)).trans (hF109 j9 h9)
            have r118 : M114 j 2 = M106 j 2 := by rw [e115]; exact zup_n _ _ (by omega)
            exact k80 _ _ ⟨hB116, hF117, (by omega), (by omega), trivial⟩ (by omega)
        · skip
          exact hQ _ _ ⟨hB, hF0, (by omega), trivial⟩
      · skip
        have o119 : 0 ≤ (sI x5) ∧ (sI x5) < 12 := by omega
        refine ⟨o119, ?_⟩
        intro M120 e121
        have hB122 : BN wC M120 := by rw [e121]; exact BN.up hB cd4 rfl (by omega) (by omega)
        have hF123 : ∀ j9 : Nat, ¬ (j ≤ j9 ∧ j9 ≤ j + 2) → M120 j9 = M j9 := fun j9 h9 => by rw [e121]; exact (zup_row _ _ (by omega)).trans (hF0 j9 h9)
        have r124 : M120 j 2 = M j 2 := by rw [e121]; exact zup_n _ _ (by omega)
        exact hQ _ _ ⟨hB122, hF123, (by omega), trivial⟩
  · skip
    have o125 : 0 ≤ (sI x5) ∧ (sI x5) < 12 := by omega
    refine ⟨o125, ?_⟩
    have q126 : 0 ≤ (M (j + 1) (sI x5).toNat) ∧ (M (j + 1) (sI x5).toNat) ≤ 5000 := BN.at hB cd2 rfl
    have s127 : sI (M (j + 1) (sI x5).toNat) = (M (j + 1) (sI x5).toNat) := sIo (by omega) (by omega)
    have s128 : sI a0 = a0 := sIo (by omega) (by omega)
    refine ⟨fun c129 => ?_, fun c129 => ?_⟩
    · skip
      refine pJ0_dup ?_
      refine ⟨fun c131 => ?_, fun c131 => ?_⟩
      · skip
        refine ⟨fun c133 => ?_, fun c133 => ?_⟩
        · skip
          refine wL1_of (fun x135 M136 => BN wC M136 ∧ (∀ j9 : Nat, ¬ (j ≤ j9 ∧ j9 ≤ j + 2) → M136 j9 = M j9) ∧ (0 ≤ x135 ∧ x135 ≤ 11) ∧ (M136 j 2 = M j 2) ∧ True) (fun x135 M136 => (x135 + 1).toNat) ⟨hB, hF0, (by omega), (by omega), trivial⟩ (fun K x135 M136 h141 k142 => ?_)
          obtain ⟨hB137, hF138, i139, i140, -⟩ := h141
          have s143 : sI x135 = x135 := sIo (by omega) (by omega)
          have s144 : sI x5 = x5 := sIo (by omega) (by omega)
          refine ⟨fun c145 => ?_, fun c145 => ?_⟩
          · skip
            have o146 : 0 ≤ (sI x5) ∧ (sI x5) < 12 := by omega
            refine ⟨o146, ?_⟩
            intro M147 e148
            have hB149 : BN wC M147 := by rw [e148]; exact BN.up hB137 cd2 rfl (by omega) (by omega)
            have hF150 : ∀ j9 : Nat, ¬ (j ≤ j9 ∧ j9 ≤ j + 2) → M147 j9 = M j9 := fun j9 h9 => by rw [e148]; exact (zup_row _ _ (by omega)).trans (hF138 j9 h9)
            have r151 : M147 j 2 = M136 j 2 := by rw [e148]; exact zup_n _ _ (by omega)
            have o152 : 0 ≤ (sI x5) ∧ (sI x5) < 12 := by omega
            refine ⟨o152, ?_⟩
            intro M153 e154
            have hB155 : BN wC M153 := by rw [e154]; exact BN.up hB149 cd4 rfl (by omega) (by omega)
            have hF156 : ∀ j9 : Nat, ¬ (j ≤ j9 ∧ j9 ≤ j + 2) → M153 j9 = M j9 := fun j9 h9 => by rw [e154]; exact (zup_row _ _ (by omega)).trans (hF150 j9 h9)
            have r157 : M153 j 2 = M147 j 2 := by rw [e154]; exact zup_n _ _ (by omega)
            have q158 : 0 ≤ (M153 j 2) ∧ (M153 j 2) ≤ 12 := BN.at hB155 cd_j rfl
            intro M159 e160
            have hB161 : BN wC M159 := by rw [e160]; exact BN.up hB155 cd_j rfl (by omega) (by omega)
            have hF162 : ∀ j9 : Nat, ¬ (j ≤ j9 ∧ j9 ≤ j + 2) → M159 j9 = M j9 := fun j9 h9 => by rw [e160]; exact (zup_row _ _ (by omega)).trans (hF156 j9 h9)
            have r163 : M159 j 2 = ((M153 j 2) + 1) := by rw [e160]; exact zup_s _ _ _ _
            exact hQ _ _ ⟨hB161, hF162, (by omega), trivial⟩
          · skip
            have s164 : sI (x135 - 1) = (x135 - 1) := sIo (by omega) (by omega)
            have o165 : 0 ≤ (sI (x135 - 1)) ∧ (sI (x135 - 1)) < 12 := by omega
            refine ⟨o165, ?_⟩
            have q166 : 0 ≤ (M136 (j + 1) (sI (x135 - 1)).toNat) ∧ (M136 (j + 1) (sI (x135 - 1)).toNat) ≤ 5000 := BN.at hB137 cd2 rfl
            have o167 : 0 ≤ (sI x135) ∧ (sI x135) < 12 := by omega
            refine ⟨o167, ?_⟩
            intro M168 e169
            have hB170 : BN wC M168 := by rw [e169]; exact BN.up hB137 cd2 rfl (by omega) (by omega)
            have hF171 : ∀ j9 : Nat, ¬ (j ≤ j9 ∧ j9 ≤ j + 2) → M168 j9 = M j9 := fun j9 h9 => by rw [e169]; exact (zup_row _ _ (by omega)).trans (hF138 j9 h9)
            have r172 : M168 j 2 = M136 j 2 := by rw [e169]; exact zup_n _ _ (by omega)
            have o173 : 0 ≤ (sI (x135 - 1)) ∧ (sI (x135 - 1)) < 12 := by omega
            refine ⟨o173, ?_⟩
            have q174 : (-9) ≤ (M168 (j + 2) (sI (x135 - 1)).toNat) ∧ (M168 (j + 2) (sI (x135 - 1)).toNat) ≤ 9 := BN.at hB170 cd4 rfl
            have o175 : 0 ≤ (sI x135) ∧ (sI x135) < 12 := by omega
            refine ⟨o175, ?_⟩
            intro M176 e177
            have hB178 : BN wC M176 := by rw [e177]; exact BN.up hB170 cd4 rfl (by omega) (by omega)
            have hF179 : ∀ j9 : Nat, ¬ (j ≤ j9 ∧ j9 ≤ j + 2) → M176 j9 = M j9 := fun j9 h9 => by rw [e177]; exact (zup_row _ _ (by omega)).trans (hF171 j9 h9)
            have r180 : M176 j 2 = M168 j 2 := by rw [e177]; exact zup_n _ _ (by omega)
            exact k142 _ _ ⟨hB178, hF179, (by omega), (by omega), trivial⟩ (by omega)
        · skip
          exact hQ _ _ ⟨hB, hF0, (by omega), trivial⟩
      · skip
        have o181 : 0 ≤ (sI x5) ∧ (sI x5) < 12 := by omega
        refine ⟨o181, ?_⟩
        refine ⟨fun c183 => ?_, fun c183 => ?_⟩
        · skip
          refine ⟨fun c185 => ?_, fun c185 => ?_⟩
          · skip
            refine wL1_of (fun x187 M188 => BN wC M188 ∧ (∀ j9 : Nat, ¬ (j ≤ j9 ∧ j9 ≤ j + 2) → M188 j9 = M j9) ∧ (0 ≤ x187 ∧ x187 ≤ 11) ∧ (M188 j 2 = M j 2) ∧ True) (fun x187 M188 => (x187 + 1).toNat) ⟨hB, hF0, (by omega), (by omega), trivial⟩ (fun K x187 M188 h193 k194 => ?_)
            obtain ⟨hB189, hF190, i191, i192, -⟩ := h193
            have s195 : sI x187 = x187 := sIo (by omega) (by omega)
            have s196 : sI x5 = x5 := sIo (by omega) (by omega)
            refine ⟨fun c197 => ?_, fun c197 => ?_⟩
            · skip
              have o198 : 0 ≤ (sI x5) ∧ (sI x5) < 12 := by omega
              refine ⟨o198, ?_⟩
              intro M199 e200
              have hB201 : BN wC M199 := by rw [e200]; exact BN.up hB189 cd2 rfl (by omega) (by omega)
              have hF202 : ∀ j9 : Nat, ¬ (j ≤ j9 ∧ j9 ≤ j + 2) → M199 j9 = M j9 := fun j9 h9 => by rw [e200]; exact (zup_row _ _ (by omega)).trans (hF190 j9 h9)
              have r203 : M199 j 2 = M188 j 2 := by rw [e200]; exact zup_n _ _ (by omega)
              have o204 : 0 ≤ (sI x5) ∧ (sI x5) < 12 := by omega
              refine ⟨o204, ?_⟩
              intro M205 e206
              have hB207 : BN wC M205 := by rw [e206]; exact BN.up hB201 cd4 rfl (by omega) (by omega)
              have hF208 : ∀ j9 : Nat, ¬ (j ≤ j9 ∧ j9 ≤ j + 2) → M205 j9 = M j9 := fun j9 h9 => by rw [e206]; exact (zup_row _ _ (by omega)).trans (hF202 j9 h9)
              have r209 : M205 j 2 = M199 j 2 := by rw [e206]; exact zup_n _ _ (by omega)
              have q210 : 0 ≤ (M205 j 2) ∧ (M205 j 2) ≤ 12 := BN.at hB207 cd_j rfl
              intro M211 e212
              have hB213 : BN wC M211 := by rw [e212]; exact BN.up hB207 cd_j rfl (by omega) (by omega)
              have hF214 : ∀ j9 : Nat, ¬ (j ≤ j9 ∧ j9 ≤ j + 2) → M211 j9 = M j9 := fun j9 h9 => by rw [e212]; exact (zup_row _ _ (by omega)).trans (hF208 j9 h9)
              have r215 : M211 j 2 = ((M205 j 2) + 1) := by rw [e212]; exact zup_s _ _ _ _
              exact hQ _ _ ⟨hB213, hF214, (by omega), trivial⟩
            · skip
              have s216 : sI (x187 - 1) = (x187 - 1) := sIo (by omega) (by omega)
              have o217 : 0 ≤ (sI (x187 - 1)) ∧ (sI (x187 - 1)) < 12 := by omega
              refine ⟨o217, ?_⟩
              have q218 : 0 ≤ (M188 (j + 1) (sI (x187 - 1)).toNat) ∧ (M188 (j + 1) (sI (x187 - 1)).toNat) ≤ 5000 := BN.at hB189 cd2 rfl
              have o219 : 0 ≤ (sI x187) ∧ (sI x187) < 12 := by omega
              refine ⟨o219, ?_⟩
              intro M220 e221
              have hB222 : BN wC M220 := by rw [e221]; exact BN.up hB189 cd2 rfl (by omega) (by omega)
              have hF223 : ∀ j9 : Nat, ¬ (j ≤ j9 ∧ j9 ≤ j + 2) → M220 j9 = M j9 := fun j9 h9 => by rw [e221]; exact (zup_row _ _ (by omega)).trans (hF190 j9 h9)
              have r224 : M220 j 2 = M188 j 2 := by rw [e221]; exact zup_n _ _ (by omega)
              have o225 : 0 ≤ (sI (x187 - 1)) ∧ (sI (x187 - 1)) < 12 := by omega
              refine ⟨o225, ?_⟩
              have q226 : (-9) ≤ (M220 (j + 2) (sI (x187 - 1)).toNat) ∧ (M220 (j + 2) (sI (x187 - 1)).toNat) ≤ 9 := BN.at hB222 cd4 rfl
              have o227 : 0 ≤ (sI x187) ∧ (sI x187) < 12 := by omega
              refine ⟨o227, ?_⟩
              intro M228 e229
              have hB230 : BN wC M228 := by rw [e229]; exact BN.up hB222 cd4 rfl (by omega) (by omega)
              have hF231 : ∀ j9 : Nat, ¬ (j ≤ j9 ∧ j9 ≤ j + 2) → M228 j9 = M j9 := fun j9 h9 => by rw [e229]; exact (zup_row _ _ (by omega)).trans (hF223 j9 h9)
              have r232 : M228 j 2 = M220 j 2 := by rw [e229]; exact zup_n _ _ (by omega)
              exact k194 _ _ ⟨hB230, hF231, (by omega), (by omega), trivial⟩ (by omega)
          · skip
            exact hQ _ _ ⟨hB, hF0, (by omega), trivial⟩
        · skip
          have o233 : 0 ≤ (sI x5) ∧ (sI x5) < 12 := by omega
          refine ⟨o233, ?_⟩
          intro M234 e235
          have hB236 : BN wC M234 := by rw [e235]; exact BN.up hB cd4 rfl (by omega) (by omega)
          have hF237 : ∀ j9 : Nat, ¬ (j ≤ j9 ∧ j9 ≤ j + 2) → M234 j9 = M j9 := fun j9 h9 => by rw [e235]; exact (zup_row _ _ (by omega)).trans (hF0 j9 h9)
          have r238 : M234 j 2 = M j 2 := by rw [e235]; exact zup_n _ _ (by omega)
          exact hQ _ _ ⟨hB236, hF237, (by omega), trivial⟩
    · skip
      exact k9 _ ⟨(by omega), (by omega), trivial⟩ (by omega)
set_option maxHeartbeats 4000000 in
set_option maxRecDepth 100000 in
theorem sC_motor {M : zM} {a0 : Int} {a1 : Int} {a2 : Int} (hB : BN wC M) (v0 : (-2147483648) ≤ a0 ∧ a0 ≤ 2147483647) (v1 : (-2147483648) ≤ a1 ∧ a1 ≤ 2147483647) (v2 : (-2147483648) ≤ a2 ∧ a2 ≤ 2147483647) {Q : Int → zM → Prop} (hQ : ∀ (z : Int) (M1 : zM), BN wC M1 ∧ (∀ j9 : Nat, ¬ (32 ≤ j9 ∧ j9 ≤ 56) → M1 j9 = M j9) ∧ (0 ≤ z ∧ z ≤ 1) ∧ True → Q z M1) : wC_motor a0 a1 a2 M Q := by
  unfold wC_motor
  have hF0 : ∀ j9 : Nat, ¬ (32 ≤ j9 ∧ j9 ≤ 56) → M j9 = M j9 := fun j9 _ => rfl
  refine sC_isMotor hB (by omega) (fun z1  h2 => ?_)
  obtain ⟨p3, p4, -⟩ := h2
  refine ⟨fun c5 => ?_, fun c5 => ?_⟩
  · skip
    exact hQ _ _ ⟨hB, hF0, (by omega), trivial⟩
  · skip
    refine sC_within hB (by omega) (by omega) (by omega) (fun z6  h7 => ?_)
    obtain ⟨p8, p9, -⟩ := h7
    refine ⟨fun c10 => ?_, fun c10 => ?_⟩
    · skip
      exact hQ _ _ ⟨hB, hF0, (by omega), trivial⟩
    · skip
      refine sC_within hB (by omega) (by omega) (by omega) (fun z11  h12 => ?_)
      obtain ⟨p13, p14, -⟩ := h12
      refine ⟨fun c15 => ?_, fun c15 => ?_⟩
      · skip
        refine sC_Studio_motorOf hB (by omega) (fun q16 h17 => ?_)
        obtain ⟨⟨lt18, cd19⟩, h17⟩ := h17
        refine ⟨q16, rfl, ⟨lt18, cd19⟩, ?_⟩
        obtain ⟨lt20, cd21, lt22, cd23⟩ := nx_motor q16 lt18 cd19
        refine sC_Motor_tell hB lt18 cd19 (by omega) (by omega) (fun z24 M25 h26 => ?_)
        obtain ⟨hB27, f28, p29, -⟩ := h26
        have hF30 : ∀ j9 : Nat, ¬ (32 ≤ j9 ∧ j9 ≤ 56) → M25 j9 = M j9 := fun j9 h9 => ((f28 j9 (by omega)).trans (hF0 j9 h9))
        exact hQ _ _ ⟨hB27, hF30, (by omega), trivial⟩
      · skip
        exact hQ _ _ ⟨hB, hF0, (by omega), trivial⟩
set_option maxHeartbeats 4000000 in
set_option maxRecDepth 100000 in
theorem sC_Motor_forget {M : zM} {j : Nat} (hB : BN wC M) (lt_j : j < nC) (cd_j : zcd wC j = 11) {Q : zM → Prop} (hQ : ∀ (M1 : zM), BN wC M1 ∧ (∀ j9 : Nat, ¬ (j9 = j) → M1 j9 = M j9) ∧ (M1 j 2 = 0) ∧ True → Q M1) : wC_Motor_forget j M Q := by
  unfold wC_Motor_forget
  have hF0 : ∀ j9 : Nat, ¬ (j9 = j) → M j9 = M j9 := fun j9 _ => rfl
  obtain ⟨lt1, cd2, lt3, cd4⟩ := nx_motor j lt_j cd_j
  intro M5 e6
  have hB7 : BN wC M5 := by rw [e6]; exact BN.up hB cd_j rfl (by omega) (by omega)
  have hF8 : ∀ j9 : Nat, ¬ (j9 = j) → M5 j9 = M j9 := fun j9 h9 => by rw [e6]; exact (zup_row _ _ (by omega)).trans (hF0 j9 h9)
  have r9 : M5 j 2 = 0 := by rw [e6]; exact zup_s _ _ _ _
  exact hQ _ ⟨hB7, hF8, (by omega), trivial⟩
theorem sC_Studio_empty {M : zM} (hB : BN wC M) {Q : Int → zM → Prop} (hQ : ∀ z M1, (BN wC M1 ∧ (∀ j9 : Nat, ¬ (j9 = 32 ∨ j9 = 35 ∨ j9 = 38) → M1 j9 = M j9) ∧ (-2147483648 ≤ z ∧ z ≤ 2147483647) ∧ z = M 32 2 ∧ M1 32 2 = 0 ∧ M1 35 2 = 0 ∧ M1 38 2 = 0 ∧ True) → Q z M1) : wC_Studio_empty M Q := by
  unfold wC_Studio_empty
  intro M1 e1
  have hB1 : BN wC M1 := by rw [e1]; exact BN.up hB (rfl : zcd wC 32 = 8) rfl (by omega) (by omega)
  have b : 0 ≤ M 32 2 ∧ M 32 2 ≤ 4 := BN.at hB (rfl : zcd wC 32 = 8) rfl
  have s1 : sI (M 32 2) = M 32 2 := sIo (by omega) (by omega)
  refine wL1_of (fun x N => BN wC N ∧ (∀ j9 : Nat, ¬ (j9 = 32 ∨ j9 = 35 ∨ j9 = 38) → N j9 = M j9) ∧ (0 ≤ x ∧ x ≤ 2) ∧ N 32 2 = 0 ∧ (1 ≤ x → N 35 2 = 0) ∧ (2 ≤ x → N 38 2 = 0)) (fun x _ => (100 - x).toNat) ⟨hB1, fun j9 h9 => by rw [e1]; exact zup_row _ _ (by omega), by omega, by rw [e1, zup_s], fun h => absurd h (by omega), fun h => absurd h (by omega)⟩ (fun K x N hI hK => ?_)
  obtain ⟨hBN, FN, ix, i32, i35, i38⟩ := hI
  have sx : sI x = x := sIo (by omega) (by omega)
  rw [sx, s1]
  refine ⟨fun c => hQ _ _ ⟨hBN, FN, by omega, rfl, i32, i35 (by omega), i38 (by omega), trivial⟩, fun c => ⟨by omega, ?_⟩⟩
  have hx : x = 0 ∨ x = 1 := by omega
  rcases hx with rfl | rfl
  · refine sC_Motor_forget (j := 35) hBN (by decide) (rfl : zcd wC 35 = 11) (fun M20 hp => ?_)
    obtain ⟨h1, h2, h3, -⟩ := hp
    exact hK _ _ ⟨h1, fun j9 h9 => (h2 j9 (by omega)).trans (FN j9 h9), by omega, by rw [h2 32 (by omega)]; exact i32, fun _ => h3, fun h => absurd h (by omega)⟩ (by omega)
  · refine sC_Motor_forget (j := 38) hBN (by decide) (rfl : zcd wC 38 = 11) (fun M20 hp => ?_)
    obtain ⟨h1, h2, h3, -⟩ := hp
    exact hK _ _ ⟨h1, fun j9 h9 => (h2 j9 (by omega)).trans (FN j9 h9), by omega, by rw [h2 32 (by omega)]; exact i32, fun _ => by rw [h2 35 (by omega)]; exact i35 (by omega), fun _ => h3⟩ (by omega)
set_option maxHeartbeats 4000000 in
set_option maxRecDepth 100000 in
theorem sC_clear {M : zM}  (hB : BN wC M)  {Q : Int → zM → Prop} (hQ : ∀ (z : Int) (M1 : zM), BN wC M1 ∧ (∀ j9 : Nat, ¬ (j9 = 32 ∨ j9 = 35 ∨ j9 = 38 ∨ j9 = 60) → M1 j9 = M j9) ∧ ((-2147483648) ≤ z ∧ z ≤ 2147483647) ∧ (z = M 32 2) ∧ (M1 60 2 = 0) ∧ (M1 32 2 = 0) ∧ (M1 35 2 = 0) ∧ (M1 38 2 = 0) ∧ True → Q z M1) : wC_clear  M Q := by
  unfold wC_clear
  have hF0 : ∀ j9 : Nat, ¬ (j9 = 32 ∨ j9 = 35 ∨ j9 = 38 ∨ j9 = 60) → M j9 = M j9 := fun j9 _ => rfl
  intro M1 e2
  have hB3 : BN wC M1 := by rw [e2]; exact BN.up hB (rfl : zcd wC 60 = 19) rfl (by omega) (by omega)
  have hF4 : ∀ j9 : Nat, ¬ (j9 = 32 ∨ j9 = 35 ∨ j9 = 38 ∨ j9 = 60) → M1 j9 = M j9 := fun j9 h9 => by rw [e2]; exact (zup_row _ _ (by omega)).trans (hF0 j9 h9)
  have r5 : M1 60 2 = 0 := by rw [e2]; exact zup_s _ _ _ _
  have r6 : M1 32 2 = M 32 2 := by rw [e2]; exact zup_n _ _ (by omega)
  have r7 : M1 35 2 = M 35 2 := by rw [e2]; exact zup_n _ _ (by omega)
  have r8 : M1 38 2 = M 38 2 := by rw [e2]; exact zup_n _ _ (by omega)
  refine sC_Studio_empty hB3  (fun z9 M10 h11 => ?_)
  obtain ⟨hB12, f13, p14, p15, p16, p17, p18, -⟩ := h11
  have hF19 : ∀ j9 : Nat, ¬ (j9 = 32 ∨ j9 = 35 ∨ j9 = 38 ∨ j9 = 60) → M10 j9 = M j9 := fun j9 h9 => ((f13 j9 (by omega)).trans (hF4 j9 h9))
  have r20 : M10 60 2 = M1 60 2 := congrFun (f13 60 (by omega)) 2
  exact hQ _ _ ⟨hB12, hF19, (by omega), (by omega), (by omega), (by omega), (by omega), (by omega), trivial⟩
set_option maxHeartbeats 4000000 in
set_option maxRecDepth 100000 in
theorem sC_count {M : zM} {a0 : Int} (hB : BN wC M) (v0 : (-2147483648) ≤ a0 ∧ a0 ≤ 2147483647) {Q : Int → Prop} (hQ : ∀ (z : Int), ((-2147483648) ≤ z ∧ z ≤ 2147483647) ∧ True → Q z) : wC_count a0 M Q := by
  unfold wC_count
  have s1 : sI a0 = a0 := sIo (by omega) (by omega)
  refine ⟨fun c2 => ?_, fun c2 => ?_⟩
  · skip
    have q3 : 0 ≤ (M 32 2) ∧ (M 32 2) ≤ 4 := BN.at hB (rfl : zcd wC 32 = 8) rfl
    have s4 : sI (M 32 2) = (M 32 2) := sIo (by omega) (by omega)
    exact hQ _ ⟨(by omega), trivial⟩
  refine ⟨fun c5 => ?_, fun c5 => ?_⟩
  · skip
    have q6 : 0 ≤ (M 60 2) ∧ (M 60 2) ≤ 6 := BN.at hB (rfl : zcd wC 60 = 19) rfl
    have s7 : sI (M 60 2) = (M 60 2) := sIo (by omega) (by omega)
    exact hQ _ ⟨(by omega), trivial⟩
  refine ⟨fun c8 => ?_, fun c8 => ?_⟩
  · skip
    have q9 : 0 ≤ (M 82 1) ∧ (M 82 1) ≤ 60 := BN.at hB (rfl : zcd wC 82 = 34) rfl
    have s10 : sI (M 82 1) = (M 82 1) := sIo (by omega) (by omega)
    exact hQ _ ⟨(by omega), trivial⟩
  refine ⟨fun c11 => ?_, fun c11 => ?_⟩
  · skip
    have q12 : 0 ≤ (M 86 0) ∧ (M 86 0) ≤ 5 := BN.at hB (rfl : zcd wC 86 = 38) rfl
    have s13 : sI (M 86 0) = (M 86 0) := sIo (by omega) (by omega)
    exact hQ _ ⟨(by omega), trivial⟩
  refine ⟨fun c14 => ?_, fun c14 => ?_⟩
  · skip
    have q15 : 0 ≤ (M 96 0) ∧ (M 96 0) ≤ 16 := BN.at hB (rfl : zcd wC 96 = 44) rfl
    have s16 : sI (M 96 0) = (M 96 0) := sIo (by omega) (by omega)
    exact hQ _ ⟨(by omega), trivial⟩
  refine ⟨fun c17 => ?_, fun c17 => ?_⟩
  · skip
    have q18 : 0 ≤ (M 0 10) ∧ (M 0 10) ≤ 40 := BN.at hB (rfl : zcd wC 0 = 0) rfl
    have s19 : sI (M 0 10) = (M 0 10) := sIo (by omega) (by omega)
    exact hQ _ ⟨(by omega), trivial⟩
  refine ⟨fun c20 => ?_, fun c20 => ?_⟩
  · skip
    have q21 : 0 ≤ (M 1 1) ∧ (M 1 1) ≤ 100 := BN.at hB (rfl : zcd wC 1 = 1) rfl
    have s22 : sI (M 1 1) = (M 1 1) := sIo (by omega) (by omega)
    exact hQ _ ⟨(by omega), trivial⟩
  refine ⟨fun c23 => ?_, fun c23 => ?_⟩
  · skip
    have q24 : 0 ≤ (M 30 1) ∧ (M 30 1) ≤ 24 := BN.at hB (rfl : zcd wC 30 = 6) rfl
    have s25 : sI (M 30 1) = (M 30 1) := sIo (by omega) (by omega)
    exact hQ _ ⟨(by omega), trivial⟩
  exact hQ _ ⟨(by omega), trivial⟩
set_option maxHeartbeats 4000000 in
set_option maxRecDepth 100000 in
theorem sC_Motor_lastSpeed {M : zM} {j : Nat} (hB : BN wC M) (lt_j : j < nC) (cd_j : zcd wC j = 11) {Q : Int → Prop} (hQ : ∀ (z : Int), ((-9) ≤ z ∧ z ≤ 9) ∧ True → Q z) : wC_Motor_lastSpeed j M Q := by
  unfold wC_Motor_lastSpeed
  obtain ⟨lt1, cd2, lt3, cd4⟩ := nx_motor j lt_j cd_j
  have q5 : 0 ≤ (M j 2) ∧ (M j 2) ≤ 12 := BN.at hB cd_j rfl
  have s6 : sI (M j 2) = (M j 2) := sIo (by omega) (by omega)
  refine ⟨fun c7 => ?_, fun c7 => ?_⟩
  · skip
    have s9 : sI ((M j 2) - 1) = ((M j 2) - 1) := sIo (by omega) (by omega)
    have o10 : 0 ≤ (sI ((M j 2) - 1)) ∧ (sI ((M j 2) - 1)) < 12 := by omega
    refine ⟨o10, ?_⟩
    have q11 : (-9) ≤ (M (j + 2) (sI ((M j 2) - 1)).toNat) ∧ (M (j + 2) (sI ((M j 2) - 1)).toNat) ≤ 9 := BN.at hB cd4 rfl
    have s12 : sI (M (j + 2) (sI ((M j 2) - 1)).toNat) = (M (j + 2) (sI ((M j 2) - 1)).toNat) := sIo (by omega) (by omega)
    exact hQ _ ⟨(by omega), trivial⟩
  · skip
    exact hQ _ ⟨(by omega), trivial⟩
set_option maxHeartbeats 4000000 in
set_option maxRecDepth 100000 in
theorem sC_greatestDivisor {M : zM} {a0 : Int} {a1 : Int} (hB : BN wC M) (v0 : (-1) ≤ a0 ∧ a0 ≤ 1000000) (v1 : (-9223372036854775808) ≤ a1 ∧ a1 ≤ 9223372036854775807) {Q : Int → Prop} (hQ : ∀ (z : Int), (1 ≤ z ∧ z ≤ 1000000) ∧ (z ≤ a0 ∨ z = 1) ∧ True → Q z) : wC_greatestDivisor a0 a1 M Q := by
  unfold wC_greatestDivisor
  refine pL1_of (fun x1 => ((-1) ≤ x1 ∧ x1 ≤ 1000000) ∧ (x1 ≤ a0) ∧ True) (fun x1 => (x1 + 1).toNat) ⟨(by omega), (by omega), trivial⟩ (fun K x1 h4 k5 => ?_)
  obtain ⟨i2, i3, -⟩ := h4
  have s6 : sI x1 = x1 := sIo (by omega) (by omega)
  refine ⟨fun c7 => ?_, fun c7 => ?_⟩
  · skip
    exact hQ _ ⟨(by omega), (by omega), trivial⟩
  · skip
    have s8 : sI a0 = a0 := sIo (by omega) (by omega)
    have o9 : (sI x1) ≠ 0 := by omega
    refine ⟨o9, ?_⟩
    have s10 := sI_R ((sI a0).tmod (sI x1))
    refine ⟨fun c11 => ?_, fun c11 => ?_⟩
    · skip
      exact k5 _ ⟨(by omega), (by omega), trivial⟩ (by omega)
    · skip
      have s12 : sL a1 = a1 := sLo (by omega) (by omega)
      have o13 : (sI x1) ≠ 0 := by omega
      refine ⟨o13, ?_⟩
      have s14 := sL_R ((sL a1).tmod (sI x1))
      refine ⟨fun c15 => ?_, fun c15 => ?_⟩
      · skip
        exact k5 _ ⟨(by omega), (by omega), trivial⟩ (by omega)
      · skip
        exact hQ _ ⟨(by omega), (by omega), trivial⟩
set_option maxHeartbeats 4000000 in
set_option maxRecDepth 100000 in
theorem sC_withoutShared {M : zM} {a0 : Int} {a1 : Int} (hB : BN wC M) (v0 : 0 ≤ a0 ∧ a0 ≤ 1000000) (v1 : (-9223372036854775808) ≤ a1 ∧ a1 ≤ 9223372036854775807) {Q : Int → Prop} (hQ : ∀ (z : Int), (0 ≤ z ∧ z ≤ 1000000) ∧ (z ≤ a0) ∧ True → Q z) : wC_withoutShared a0 a1 M Q := by
  unfold wC_withoutShared
  refine sC_greatestDivisor hB (by omega) (by omega) (fun z1  h2 => ?_)
  obtain ⟨p3, p4, -⟩ := h2
  refine ⟨fun c5 => ?_, fun c5 => ?_⟩
  · skip
    have s6 : sI a0 = a0 := sIo (by omega) (by omega)
    have o7 : z1 ≠ 0 := by omega
    refine ⟨o7, ?_⟩
    have q8 := tdivB (sI a0) z1 (by omega) (by omega)
    have s9 : sI ((sI a0).tdiv z1) = ((sI a0).tdiv z1) := sIo (by omega) (by omega)
    exact hQ _ ⟨(by omega), (by omega), trivial⟩
  · skip
    have s10 : sI a0 = a0 := sIo (by omega) (by omega)
    exact hQ _ ⟨(by omega), (by omega), trivial⟩
end zz30_C01
section zz30_C02
/-! safety of the class, 2 -/
set_option maxHeartbeats 4000000 in
set_option maxRecDepth 100000 in
theorem sC_Motor_round {M : zM} {j : Nat} {a0 : Int} (hB : BN wC M) (lt_j : j < nC) (cd_j : zcd wC j = 11) (v0 : 0 ≤ a0 ∧ a0 ≤ 24) {Q : Int → Prop} (hQ : ∀ (z : Int), (0 ≤ z ∧ z ≤ 24) ∧ True → Q z) : wC_Motor_round j a0 M Q := by
  unfold wC_Motor_round
  obtain ⟨lt1, cd2, lt3, cd4⟩ := nx_motor j lt_j cd_j
  refine sC_Motor_lastSpeed hB lt_j cd_j (fun z5  h6 => ?_)
  obtain ⟨p7, -⟩ := h6
  refine sC_withoutShared hB (by omega) (by omega) (fun z8  h9 => ?_)
  obtain ⟨p10, p11, -⟩ := h9
  exact hQ _ ⟨(by omega), trivial⟩
set_option maxHeartbeats 4000000 in
set_option maxRecDepth 100000 in
theorem sC_Studio_roundOf {M : zM} {a0 : Nat} (hB : BN wC M) (lt_a0 : a0 < nC) (cd_a0 : zcd wC a0 = 14) {Q : Int → Prop} (hQ : ∀ (z : Int), (0 ≤ z ∧ z ≤ 24) ∧ True → Q z) : wC_Studio_roundOf a0 M Q := by
  unfold wC_Studio_roundOf
  obtain ⟨lt1, cd2, lt3, cd4, lt5, cd6⟩ := nx_ring a0 lt_a0 cd_a0
  have q7 : 0 ≤ (M a0 1) ∧ (M a0 1) ≤ 1 := BN.at hB cd_a0 rfl
  refine sC_Studio_motorOf hB (by omega) (fun q8 h9 => ?_)
  obtain ⟨⟨lt10, cd11⟩, h9⟩ := h9
  refine ⟨q8, rfl, ⟨lt10, cd11⟩, ?_⟩
  obtain ⟨lt12, cd13, lt14, cd15⟩ := nx_motor q8 lt10 cd11
  have q16 : 0 ≤ (M (a0 + 1) 1) ∧ (M (a0 + 1) 1) ≤ 24 := BN.at hB cd2 rfl
  refine sC_Motor_round hB lt10 cd11 (by omega) (fun z17  h18 => ?_)
  obtain ⟨p19, -⟩ := h18
  exact hQ _ ⟨(by omega), trivial⟩
set_option maxHeartbeats 4000000 in
set_option maxRecDepth 100000 in
theorem sC_of {M : zM} {a0 : Int} {a1 : Int} (hB : BN wC M) (v0 : (-2147483648) ≤ a0 ∧ a0 ≤ 2147483647) (v1 : (-2147483648) ≤ a1 ∧ a1 ≤ 2147483647) {Q : Int → Prop} {X : Prop} (hX : X) (hQ : ∀ (z : Int), ((-2147483648) ≤ z ∧ z ≤ 2147483647) ∧ True → Q z) : wC_of a0 a1 M Q X := by
  unfold wC_of
  refine sC_Studio_find hB (by omega) (fun h2 => ?_) (fun q1 h2 => ?_)
  · skip
    refine ⟨fun _ => ?_, fun q9 h9 => nomatch h9⟩
    exact hX
  · skip
    refine ⟨(fun h9 => nomatch h9), fun q9 h9 => ?_⟩
    obtain rfl := Option.some.inj h9
    obtain ⟨⟨lt3, cd4⟩, h2⟩ := h2
    refine ⟨⟨lt3, cd4⟩, ?_⟩
    obtain ⟨lt5, cd6, lt7, cd8, lt9, cd10⟩ := nx_ring q1 lt3 cd4
    have s11 : sI a1 = a1 := sIo (by omega) (by omega)
    refine ⟨fun c12 => ?_, fun c12 => ?_⟩
    · skip
      have q13 : 0 ≤ (M (q1 + 1) 1) ∧ (M (q1 + 1) 1) ≤ 24 := BN.at hB cd6 rfl
      have s14 : sI (M (q1 + 1) 1) = (M (q1 + 1) 1) := sIo (by omega) (by omega)
      exact hQ _ ⟨(by omega), trivial⟩
    refine ⟨fun c15 => ?_, fun c15 => ?_⟩
    · skip
      have q16 : 0 ≤ (M q1 1) ∧ (M q1 1) ≤ 1 := BN.at hB cd4 rfl
      have s17 : sI (M q1 1) = (M q1 1) := sIo (by omega) (by omega)
      exact hQ _ ⟨(by omega), trivial⟩
    refine ⟨fun c18 => ?_, fun c18 => ?_⟩
    · skip
      have q19 : 0 ≤ (M q1 2) ∧ (M q1 2) ≤ 23 := BN.at hB cd4 rfl
      have s20 : sI (M q1 2) = (M q1 2) := sIo (by omega) (by omega)
      exact hQ _ ⟨(by omega), trivial⟩
    refine ⟨fun c21 => ?_, fun c21 => ?_⟩
    · skip
      have q22 : (-2147483648) ≤ (M q1 3) ∧ (M q1 3) ≤ 2147483647 := BN.at hB cd4 rfl
      have s23 : sI (M q1 3) = (M q1 3) := sIo (by omega) (by omega)
      exact hQ _ ⟨(by omega), trivial⟩
    refine ⟨fun c24 => ?_, fun c24 => ?_⟩
    · skip
      refine sC_Studio_roundOf hB lt3 cd4 (fun z25  h26 => ?_)
      obtain ⟨p27, -⟩ := h26
      exact hQ _ ⟨(by omega), trivial⟩
    refine ⟨fun c28 => ?_, fun c28 => ?_⟩
    · skip
      have q29 : (-2147483648) ≤ (M q1 4) ∧ (M q1 4) ≤ 2147483647 := BN.at hB cd4 rfl
      have s30 : sI (M q1 4) = (M q1 4) := sIo (by omega) (by omega)
      exact hQ _ ⟨(by omega), trivial⟩
    exact hX
set_option maxHeartbeats 4000000 in
set_option maxRecDepth 100000 in
theorem sC_inch {M : zM} {a0 : Int} {a1 : Int} (hB : BN wC M) (v0 : (-2147483648) ≤ a0 ∧ a0 ≤ 2147483647) (v1 : (-2147483648) ≤ a1 ∧ a1 ≤ 2147483647) {Q : Int → Prop} (hQ : ∀ (z : Int), ((-2147483648) ≤ z ∧ z ≤ 2147483647) ∧ True → Q z) : wC_inch a0 a1 M Q := by
  unfold wC_inch
  refine sC_Studio_find hB (by omega) (fun h2 => ?_) (fun q1 h2 => ?_)
  · skip
    refine ⟨fun _ => ?_, fun q9 h9 => nomatch h9⟩
    exact hQ _ ⟨(by omega), trivial⟩
  · skip
    refine ⟨(fun h9 => nomatch h9), fun q9 h9 => ?_⟩
    obtain rfl := Option.some.inj h9
    obtain ⟨⟨lt3, cd4⟩, h2⟩ := h2
    refine ⟨⟨lt3, cd4⟩, ?_⟩
    obtain ⟨lt5, cd6, lt7, cd8, lt9, cd10⟩ := nx_ring q1 lt3 cd4
    refine sC_Strip_at hB lt5 cd6 (by omega) (fun z11  h12 => ?_)
    obtain ⟨p13, -⟩ := h12
    exact hQ _ ⟨(by omega), trivial⟩
set_option maxHeartbeats 4000000 in
set_option maxRecDepth 100000 in
theorem sC_Motor_wayTo {M : zM} {j : Nat} {a0 : Int} (hB : BN wC M) (lt_j : j < nC) (cd_j : zcd wC j = 11) {Q : Int → Prop} (hQ : ∀ (z : Int), ((-9223372036854775808) ≤ z ∧ z ≤ 9223372036854775807) ∧ True → Q z) : wC_Motor_wayTo j a0 M Q := by
  unfold wC_Motor_wayTo
  obtain ⟨lt1, cd2, lt3, cd4⟩ := nx_motor j lt_j cd_j
  refine pL4_of (fun x5 x6 x7 x8 => (0 ≤ x8 ∧ x8 ≤ 1000000) ∧ True) (fun x5 x6 x7 x8 => (1000000 - x8).toNat) ⟨(by omega), trivial⟩ (fun K x5 x6 x7 x8 h10 k11 => ?_)
  obtain ⟨i9, -⟩ := h10
  have q12 : 0 ≤ (M j 2) ∧ (M j 2) ≤ 12 := BN.at hB cd_j rfl
  have s13 : sI x8 = x8 := sIo (by omega) (by omega)
  have s14 : sI (M j 2) = (M j 2) := sIo (by omega) (by omega)
  refine pJ0_dup ?_
  refine ⟨fun c15 => ?_, fun c15 => ?_⟩
  · skip
    have s16 := sI_R x7
    have s17 := sL_R (x5 + ((a0 - x6) * (sI x7)))
    exact hQ _ ⟨(by omega), trivial⟩
  · skip
    have o18 : 0 ≤ (sI x8) ∧ (sI x8) < 12 := by omega
    refine ⟨o18, ?_⟩
    have q19 : 0 ≤ (M (j + 1) (sI x8).toNat) ∧ (M (j + 1) (sI x8).toNat) ≤ 5000 := BN.at hB cd2 rfl
    have s20 : sI (M (j + 1) (sI x8).toNat) = (M (j + 1) (sI x8).toNat) := sIo (by omega) (by omega)
    have s21 := sL_R a0
    refine ⟨fun c22 => ?_, fun c22 => ?_⟩
    · skip
      have s23 := sI_R x7
      have s24 := sL_R (x5 + ((a0 - x6) * (sI x7)))
      exact hQ _ ⟨(by omega), trivial⟩
    · skip
      have o25 : 0 ≤ (sI x8) ∧ (sI x8) < 12 := by omega
      refine ⟨o25, ?_⟩
      have s27 := sI_R x7
      intro t28 e29
      have o30 : 0 ≤ (sI x8) ∧ (sI x8) < 12 := by omega
      refine ⟨o30, ?_⟩
      have o32 : 0 ≤ (sI x8) ∧ (sI x8) < 12 := by omega
      refine ⟨o32, ?_⟩
      have q33 : (-9) ≤ (M (j + 2) (sI x8).toNat) ∧ (M (j + 2) (sI x8).toNat) ≤ 9 := BN.at hB cd4 rfl
      exact k11 _ _ _ _ ⟨(by omega), trivial⟩ (by omega)
set_option maxHeartbeats 4000000 in
set_option maxRecDepth 100000 in
theorem sC_way {M : zM} {a0 : Int} {a1 : Int} (hB : BN wC M) (v0 : (-2147483648) ≤ a0 ∧ a0 ≤ 2147483647) (v1 : (-2147483648) ≤ a1 ∧ a1 ≤ 2147483647) {Q : Int → Prop} {X : Prop} (hX : X) (hQ : ∀ (z : Int), ((-9223372036854775808) ≤ z ∧ z ≤ 9223372036854775807) ∧ True → Q z) : wC_way a0 a1 M Q X := by
  unfold wC_way
  refine sC_isMotor hB (by omega) (fun z1  h2 => ?_)
  obtain ⟨p3, p4, -⟩ := h2
  refine ⟨fun c5 => ?_, fun c5 => ?_⟩
  · skip
    exact hX
  · skip
    refine sC_within hB (by omega) (by omega) (by omega) (fun z6  h7 => ?_)
    obtain ⟨p8, p9, -⟩ := h7
    refine ⟨fun c10 => ?_, fun c10 => ?_⟩
    · skip
      refine sC_Studio_motorOf hB (by omega) (fun q11 h12 => ?_)
      obtain ⟨⟨lt13, cd14⟩, h12⟩ := h12
      refine ⟨q11, rfl, ⟨lt13, cd14⟩, ?_⟩
      obtain ⟨lt15, cd16, lt17, cd18⟩ := nx_motor q11 lt13 cd14
      have s19 : sI a1 = a1 := sIo (by omega) (by omega)
      refine sC_Motor_wayTo hB lt13 cd14 (fun z20  h21 => ?_)
      obtain ⟨p22, -⟩ := h21
      exact hQ _ ⟨(by omega), trivial⟩
    · skip
      exact hX
set_option maxHeartbeats 4000000 in
set_option maxRecDepth 100000 in
theorem sC_Motor_steady {M : zM} {j : Nat} (hB : BN wC M) (lt_j : j < nC) (cd_j : zcd wC j = 11) {Q : Int → Prop} (hQ : ∀ (z : Int), (0 ≤ z ∧ z ≤ 5000) ∧ True → Q z) : wC_Motor_steady j M Q := by
  unfold wC_Motor_steady
  obtain ⟨lt1, cd2, lt3, cd4⟩ := nx_motor j lt_j cd_j
  have q5 : 0 ≤ (M j 2) ∧ (M j 2) ≤ 12 := BN.at hB cd_j rfl
  have s6 : sI (M j 2) = (M j 2) := sIo (by omega) (by omega)
  refine ⟨fun c7 => ?_, fun c7 => ?_⟩
  · skip
    have s9 : sI ((M j 2) - 1) = ((M j 2) - 1) := sIo (by omega) (by omega)
    have o10 : 0 ≤ (sI ((M j 2) - 1)) ∧ (sI ((M j 2) - 1)) < 12 := by omega
    refine ⟨o10, ?_⟩
    have q11 : 0 ≤ (M (j + 1) (sI ((M j 2) - 1)).toNat) ∧ (M (j + 1) (sI ((M j 2) - 1)).toNat) ≤ 5000 := BN.at hB cd2 rfl
    have s12 : sI (M (j + 1) (sI ((M j 2) - 1)).toNat) = (M (j + 1) (sI ((M j 2) - 1)).toNat) := sIo (by omega) (by omega)
    exact hQ _ ⟨(by omega), trivial⟩
  · skip
    exact hQ _ ⟨(by omega), trivial⟩
set_option maxHeartbeats 4000000 in
set_option maxRecDepth 100000 in
theorem sC_Motor_wayBy {M : zM} {j : Nat} {a0 : Int} {a1 : Int} (hB : BN wC M) (lt_j : j < nC) (cd_j : zcd wC j = 11) (v1 : 0 ≤ a1 ∧ a1 ≤ 24) {Q : Int → Prop} (hQ : ∀ (z : Int), (0 ≤ z ∧ z ≤ 2147483646) ∧ (1 ≤ a1 → z < a1) ∧ (a1 < 1 → z = 0) ∧ True → Q z) : wC_Motor_wayBy j a0 a1 M Q := by
  unfold wC_Motor_wayBy
  obtain ⟨lt1, cd2, lt3, cd4⟩ := nx_motor j lt_j cd_j
  refine sC_Motor_steady hB lt_j cd_j (fun z5  h6 => ?_)
  obtain ⟨p7, -⟩ := h6
  have s8 := sL_R (a0 - z5)
  refine sC_Motor_wayTo hB lt_j cd_j (fun z9  h10 => ?_)
  obtain ⟨p11, -⟩ := h10
  refine sC_by hB (by omega) (fun z12  h13 => ?_)
  obtain ⟨p14, p15, p16, -⟩ := h13
  refine sC_Motor_lastSpeed hB lt_j cd_j (fun z17  h18 => ?_)
  obtain ⟨p19, -⟩ := h18
  refine sC_by hB (by omega) (fun z20  h21 => ?_)
  obtain ⟨p22, p23, p24, -⟩ := h21
  exact hQ _ ⟨(by omega), (by omega), (by omega), trivial⟩
set_option maxHeartbeats 4000000 in
set_option maxRecDepth 100000 in
theorem sC_Ring_heardBehind {M : zM} {j : Nat} {a0 : Int} (hB : BN wC M) (lt_j : j < nC) (cd_j : zcd wC j = 14) (v0 : (-2147483648) ≤ a0 ∧ a0 ≤ 2147483647) {Q : Int → Prop} (hQ : ∀ (z : Int), ((-2147483648) ≤ z ∧ z ≤ 2147483647) ∧ True → Q z) : wC_Ring_heardBehind j a0 M Q := by
  unfold wC_Ring_heardBehind
  obtain ⟨lt1, cd2, lt3, cd4, lt5, cd6⟩ := nx_ring j lt_j cd_j
  have q7 : 0 ≤ (M j 2) ∧ (M j 2) ≤ 23 := BN.at hB cd_j rfl
  have s8 := sI_R ((M j 2) + a0)
  have q9 : 0 ≤ (M (j + 1) 1) ∧ (M (j + 1) 1) ≤ 24 := BN.at hB cd2 rfl
  refine sC_by hB (by omega) (fun z10  h11 => ?_)
  obtain ⟨p12, p13, p14, -⟩ := h11
  have o15 : 0 ≤ z10 ∧ z10 < 24 := by omega
  refine ⟨o15, ?_⟩
  have q16 : (-2147483648) ≤ (M (j + 3) z10.toNat) ∧ (M (j + 3) z10.toNat) ≤ 2147483647 := BN.at hB cd6 rfl
  have s17 : sI (M (j + 3) z10.toNat) = (M (j + 3) z10.toNat) := sIo (by omega) (by omega)
  exact hQ _ ⟨(by omega), trivial⟩
set_option maxHeartbeats 4000000 in
set_option maxRecDepth 100000 in
theorem sC_Studio_heardOf {M : zM} {a0 : Nat} {a1 : Int} (hB : BN wC M) (lt_a0 : a0 < nC) (cd_a0 : zcd wC a0 = 14) {Q : Int → Prop} (hQ : ∀ (z : Int), ((-2147483648) ≤ z ∧ z ≤ 2147483647) ∧ True → Q z) : wC_Studio_heardOf a0 a1 M Q := by
  unfold wC_Studio_heardOf
  obtain ⟨lt1, cd2, lt3, cd4, lt5, cd6⟩ := nx_ring a0 lt_a0 cd_a0
  have q7 : 0 ≤ (M a0 1) ∧ (M a0 1) ≤ 1 := BN.at hB cd_a0 rfl
  refine sC_Studio_motorOf hB (by omega) (fun q8 h9 => ?_)
  obtain ⟨⟨lt10, cd11⟩, h9⟩ := h9
  refine ⟨q8, rfl, ⟨lt10, cd11⟩, ?_⟩
  obtain ⟨lt12, cd13, lt14, cd15⟩ := nx_motor q8 lt10 cd11
  have q16 : 0 ≤ (M (a0 + 1) 1) ∧ (M (a0 + 1) 1) ≤ 24 := BN.at hB cd2 rfl
  refine sC_Motor_wayBy hB lt10 cd11 (by omega) (fun z17  h18 => ?_)
  obtain ⟨p19, p20, p21, -⟩ := h18
  refine sC_Ring_heardBehind hB lt_a0 cd_a0 (by omega) (fun z22  h23 => ?_)
  obtain ⟨p24, -⟩ := h23
  exact hQ _ ⟨(by omega), trivial⟩
set_option maxHeartbeats 4000000 in
set_option maxRecDepth 100000 in
theorem sC_Studio_heardInAll {M : zM} {a0 : Int} (hB : BN wC M)  {Q : Int → Prop} (hQ : ∀ (z : Int), ((-2147483648) ≤ z ∧ z ≤ 2147483647) ∧ True → Q z) : wC_Studio_heardInAll a0 M Q := by
  unfold wC_Studio_heardInAll
  refine pL2_of (fun x1 x2 => (0 ≤ x2 ∧ x2 ≤ 1000000) ∧ True) (fun x1 x2 => (1000000 - x2).toNat) ⟨(by omega), trivial⟩ (fun K x1 x2 h4 k5 => ?_)
  obtain ⟨i3, -⟩ := h4
  have q6 : 0 ≤ (M 32 2) ∧ (M 32 2) ≤ 4 := BN.at hB (rfl : zcd wC 32 = 8) rfl
  have s7 : sI x2 = x2 := sIo (by omega) (by omega)
  have s8 : sI (M 32 2) = (M 32 2) := sIo (by omega) (by omega)
  refine ⟨fun c9 => ?_, fun c9 => ?_⟩
  · skip
    have s10 := sI_R x1
    exact hQ _ ⟨(by omega), trivial⟩
  · skip
    have o11 : 0 ≤ (sI x2) ∧ (sI x2) < 4 := by omega
    refine ⟨o11, ?_⟩
    obtain ⟨lt12, cd13⟩ : (41 + 4 * (sI x2).toNat) < nC ∧ zcd wC (41 + 4 * (sI x2).toNat) = 14 := (by decide : ∀ k : Nat, k < 4 → (41 + 4 * k) < nC ∧ zcd wC (41 + 4 * k) = 14) (sI x2).toNat (by omega)
    obtain ⟨lt14, cd15, lt16, cd17, lt18, cd19⟩ := nx_ring (41 + 4 * (sI x2).toNat) lt12 cd13
    refine sC_Studio_heardOf hB lt12 cd13 (fun z20  h21 => ?_)
    obtain ⟨p22, -⟩ := h21
    have q23 := orI_R x1 z20
    exact k5 _ _ ⟨(by omega), trivial⟩ (by omega)
set_option maxHeartbeats 4000000 in
set_option maxRecDepth 100000 in
theorem sC_heard {M : zM} {a0 : Int} {a1 : Int} (hB : BN wC M) (v0 : (-2147483648) ≤ a0 ∧ a0 ≤ 2147483647) (v1 : (-9223372036854775808) ≤ a1 ∧ a1 ≤ 9223372036854775807) {Q : Int → Prop} (hQ : ∀ (z : Int), ((-2147483648) ≤ z ∧ z ≤ 2147483647) ∧ True → Q z) : wC_heard a0 a1 M Q := by
  unfold wC_heard
  have s1 : sL a1 = a1 := sLo (by omega) (by omega)
  refine ⟨fun c2 => ?_, fun c2 => ?_⟩
  · skip
    have s3 : sI a0 = a0 := sIo (by omega) (by omega)
    refine ⟨fun c4 => ?_, fun c4 => ?_⟩
    · skip
      refine sC_Studio_find hB (by omega) (fun h6 => ?_) (fun q5 h6 => ?_)
      · skip
        refine ⟨fun _ => ?_, fun q9 h9 => nomatch h9⟩
        exact hQ _ ⟨(by omega), trivial⟩
      · skip
        refine ⟨(fun h9 => nomatch h9), fun q9 h9 => ?_⟩
        obtain rfl := Option.some.inj h9
        obtain ⟨⟨lt7, cd8⟩, h6⟩ := h6
        refine ⟨⟨lt7, cd8⟩, ?_⟩
        obtain ⟨lt9, cd10, lt11, cd12, lt13, cd14⟩ := nx_ring q5 lt7 cd8
        refine sC_Studio_heardOf hB lt7 cd8 (fun z15  h16 => ?_)
        obtain ⟨p17, -⟩ := h16
        exact hQ _ ⟨(by omega), trivial⟩
    · skip
      refine sC_Studio_heardInAll hB  (fun z18  h19 => ?_)
      obtain ⟨p20, -⟩ := h19
      exact hQ _ ⟨(by omega), trivial⟩
  · skip
    exact hQ _ ⟨(by omega), trivial⟩
set_option maxHeartbeats 4000000 in
set_option maxRecDepth 100000 in
theorem sC_Studio_steady {M : zM}  (hB : BN wC M)  {Q : Int → Prop} (hQ : ∀ (z : Int), (0 ≤ z ∧ z ≤ 5000) ∧ True → Q z) : wC_Studio_steady  M Q := by
  unfold wC_Studio_steady
  refine sC_Motor_steady hB (by decide) (rfl : zcd wC 35 = 11) (fun z1  h2 => ?_)
  obtain ⟨p3, -⟩ := h2
  refine sC_Motor_steady hB (by decide) (rfl : zcd wC 38 = 11) (fun z4  h5 => ?_)
  obtain ⟨p6, -⟩ := h5
  exact hQ _ ⟨(by omega), trivial⟩
set_option maxHeartbeats 4000000 in
set_option maxRecDepth 100000 in
theorem sC_Studio_grants {M : zM} {a0 : Nat} {a1 : Int} (hB : BN wC M) (lt_a0 : a0 < nC) (cd_a0 : zcd wC a0 = 14) {Q : Int → Prop} (hQ : ∀ (z : Int), (0 ≤ z ∧ z ≤ 1) ∧ True → Q z) : wC_Studio_grants a0 a1 M Q := by
  unfold wC_Studio_grants
  obtain ⟨lt1, cd2, lt3, cd4, lt5, cd6⟩ := nx_ring a0 lt_a0 cd_a0
  have q7 : (-2147483648) ≤ (M a0 4) ∧ (M a0 4) ≤ 2147483647 := BN.at hB cd_a0 rfl
  refine sC_Studio_heardOf hB lt_a0 cd_a0 (fun z8  h9 => ?_)
  obtain ⟨p10, -⟩ := h9
  have q11 := xorI_R z8 (-1)
  have q12 := andI_R (M a0 4) (xorI z8 (-1))
  refine ⟨fun c13 => ?_, fun c13 => ?_⟩
  · skip
    exact hQ _ ⟨(by omega), trivial⟩
  · skip
    exact hQ _ ⟨(by omega), trivial⟩
set_option maxHeartbeats 4000000 in
set_option maxRecDepth 100000 in
theorem sC_Meeting_turnsOf {M : zM} {a1 : Nat} {a2 : Int} (hB : BN wC M) (lt_a1 : a1 < nC) (cd_a1 : zcd wC a1 = 14) (v2 : 0 ≤ a2 ∧ a2 ≤ 24) {Q : Int → Prop} (hQ : ∀ (z : Int), ((-2147483648) ≤ z ∧ z ≤ 2147483647) ∧ True → Q z) : wC_Meeting_turnsOf a1 a2 M Q := by
  unfold wC_Meeting_turnsOf
  obtain ⟨lt1, cd2, lt3, cd4, lt5, cd6⟩ := nx_ring a1 lt_a1 cd_a1
  refine pL2_of (fun x7 x8 => (0 ≤ x8 ∧ x8 ≤ 1000000) ∧ True) (fun x7 x8 => (1000000 - x8).toNat) ⟨(by omega), trivial⟩ (fun K x7 x8 h10 k11 => ?_)
  obtain ⟨i9, -⟩ := h10
  have s12 : sI x8 = x8 := sIo (by omega) (by omega)
  have s13 : sI a2 = a2 := sIo (by omega) (by omega)
  refine ⟨fun c14 => ?_, fun c14 => ?_⟩
  · skip
    have s15 := sI_R x7
    exact hQ _ ⟨(by omega), trivial⟩
  · skip
    have q16 : 0 ≤ (M 57 1) ∧ (M 57 1) ≤ 5000 := BN.at hB (rfl : zcd wC 57 = 16) rfl
    refine sC_Studio_grants hB lt_a1 cd_a1 (fun z17  h18 => ?_)
    obtain ⟨p19, -⟩ := h18
    refine ⟨fun c20 => ?_, fun c20 => ?_⟩
    · skip
      exact k11 _ _ ⟨(by omega), trivial⟩ (by omega)
    · skip
      have q21 := shlI_R 1 x8
      have q22 := orI_R x7 (shlI 1 x8)
      exact k11 _ _ ⟨(by omega), trivial⟩ (by omega)
set_option maxHeartbeats 4000000 in
set_option maxRecDepth 100000 in
theorem sC_Meeting_look {M : zM}  (hB : BN wC M)  {Q : zM → Prop} (hQ : ∀ (M1 : zM), BN wC M1 ∧ (∀ j9 : Nat, ¬ (57 ≤ j9 ∧ j9 ≤ 59) → M1 j9 = M j9) ∧ True → Q M1) : wC_Meeting_look  M Q := by
  unfold wC_Meeting_look
  have hF0 : ∀ j9 : Nat, ¬ (57 ≤ j9 ∧ j9 ≤ 59) → M j9 = M j9 := fun j9 _ => rfl
  refine sC_Studio_steady hB  (fun z1  h2 => ?_)
  obtain ⟨p3, -⟩ := h2
  intro M4 e5
  have hB6 : BN wC M4 := by rw [e5]; exact BN.up hB (rfl : zcd wC 57 = 16) rfl (by omega) (by omega)
  have hF7 : ∀ j9 : Nat, ¬ (57 ≤ j9 ∧ j9 ≤ 59) → M4 j9 = M j9 := fun j9 h9 => by rw [e5]; exact (zup_row _ _ (by omega)).trans (hF0 j9 h9)
  have r8 : M4 57 0 = M 57 0 := by rw [e5]; exact zup_n _ _ (by omega)
  intro M9 e10
  have hB11 : BN wC M9 := by rw [e10]; exact BN.up hB6 (rfl : zcd wC 57 = 16) rfl (by omega) (by omega)
  have hF12 : ∀ j9 : Nat, ¬ (57 ≤ j9 ∧ j9 ≤ 59) → M9 j9 = M j9 := fun j9 h9 => by rw [e10]; exact (zup_row _ _ (by omega)).trans (hF7 j9 h9)
  have r13 : M9 57 0 = 0 := by rw [e10]; exact zup_s _ _ _ _
  refine wL1_of (fun x14 M15 => BN wC M15 ∧ (∀ j9 : Nat, ¬ (57 ≤ j9 ∧ j9 ≤ 59) → M15 j9 = M j9) ∧ (0 ≤ x14 ∧ x14 ≤ 4) ∧ (M15 57 0 ≤ x14) ∧ True) (fun x14 M15 => (1000000 - x14).toNat) ⟨hB11, hF12, (by omega), (by omega), trivial⟩ (fun K x14 M15 h20 k21 => ?_)
  obtain ⟨hB16, hF17, i18, i19, -⟩ := h20
  have s22 : sI x14 = x14 := sIo (by omega) (by omega)
  refine ⟨fun c23 => ?_, fun c23 => ?_⟩
  · skip
    exact hQ _ ⟨hB16, hF17, trivial⟩
  · skip
    refine sC_Studio_find hB16 (by omega) (fun h25 => ?_) (fun q24 h25 => ?_)
    · skip
      refine ⟨fun _ => ?_, fun q9 h9 => nomatch h9⟩
      exact k21 _ _ ⟨hB16, hF17, (by omega), (by omega), trivial⟩ (by omega)
    · skip
      refine ⟨(fun h9 => nomatch h9), fun q9 h9 => ?_⟩
      obtain rfl := Option.some.inj h9
      obtain ⟨⟨lt26, cd27⟩, h25⟩ := h25
      refine ⟨⟨lt26, cd27⟩, ?_⟩
      obtain ⟨lt28, cd29, lt30, cd31, lt32, cd33⟩ := nx_ring q24 lt26 cd27
      refine sC_Studio_roundOf hB16 lt26 cd27 (fun z34  h35 => ?_)
      obtain ⟨p36, -⟩ := h35
      have o37 : 0 ≤ (sI x14) ∧ (sI x14) < 4 := by omega
      refine ⟨o37, ?_⟩
      intro M38 e39
      have hB40 : BN wC M38 := by rw [e39]; exact BN.up hB16 (rfl : zcd wC 58 = 17) rfl (by omega) (by omega)
      have hF41 : ∀ j9 : Nat, ¬ (57 ≤ j9 ∧ j9 ≤ 59) → M38 j9 = M j9 := fun j9 h9 => by rw [e39]; exact (zup_row _ _ (by omega)).trans (hF17 j9 h9)
      have r42 : M38 57 0 = M15 57 0 := by rw [e39]; exact zup_n _ _ (by omega)
      have o43 : 0 ≤ (sI x14) ∧ (sI x14) < 4 := by omega
      refine ⟨o43, ?_⟩
      have q44 : 0 ≤ (M38 58 (sI x14).toNat) ∧ (M38 58 (sI x14).toNat) ≤ 24 := BN.at hB40 (rfl : zcd wC 58 = 17) rfl
      refine sC_Meeting_turnsOf hB40 lt26 cd27 (by omega) (fun z45  h46 => ?_)
      obtain ⟨p47, -⟩ := h46
      have o48 : 0 ≤ (sI x14) ∧ (sI x14) < 4 := by omega
      refine ⟨o48, ?_⟩
      intro M49 e50
      have hB51 : BN wC M49 := by rw [e50]; exact BN.up hB40 (rfl : zcd wC 59 = 18) rfl (by omega) (by omega)
      have hF52 : ∀ j9 : Nat, ¬ (57 ≤ j9 ∧ j9 ≤ 59) → M49 j9 = M j9 := fun j9 h9 => by rw [e50]; exact (zup_row _ _ (by omega)).trans (hF41 j9 h9)
      have r53 : M49 57 0 = M38 57 0 := by rw [e50]; exact zup_n _ _ (by omega)
      have q54 : 0 ≤ (M49 57 0) ∧ (M49 57 0) ≤ 4 := BN.at hB51 (rfl : zcd wC 57 = 16) rfl
      intro M55 e56
      have hB57 : BN wC M55 := by rw [e56]; exact BN.up hB51 (rfl : zcd wC 57 = 16) rfl (by omega) (by omega)
      have hF58 : ∀ j9 : Nat, ¬ (57 ≤ j9 ∧ j9 ≤ 59) → M55 j9 = M j9 := fun j9 h9 => by rw [e56]; exact (zup_row _ _ (by omega)).trans (hF52 j9 h9)
      have r59 : M55 57 0 = ((M49 57 0) + 1) := by rw [e56]; exact zup_s _ _ _ _
      exact k21 _ _ ⟨hB57, hF58, (by omega), (by omega), trivial⟩ (by omega)
set_option maxHeartbeats 4000000 in
set_option maxRecDepth 100000 in
theorem sC_leastMultiple {M : zM} {a0 : Int} {a1 : Int} (hB : BN wC M) (v0 : (-9223372036854775808) ≤ a0 ∧ a0 ≤ 9223372036854775807) (v1 : 0 ≤ a1 ∧ a1 ≤ 1000000) {Q : Int → Prop} (hQ : ∀ (z : Int), ((-9223372036854775808) ≤ z ∧ z ≤ 9223372036854775807) ∧ True → Q z) : wC_leastMultiple a0 a1 M Q := by
  unfold wC_leastMultiple
  refine sC_withoutShared hB (by omega) (by omega) (fun z1  h2 => ?_)
  obtain ⟨p3, p4, -⟩ := h2
  have s5 := sL_R (a0 * z1)
  exact hQ _ ⟨(by omega), trivial⟩
set_option maxHeartbeats 4000000 in
set_option maxRecDepth 100000 in
theorem sC_Meeting_allTicks {M : zM}  (hB : BN wC M)  {Q : Int → Prop} (hQ : ∀ (z : Int), ((-9223372036854775808) ≤ z ∧ z ≤ 9223372036854775807) ∧ True → Q z) : wC_Meeting_allTicks  M Q := by
  unfold wC_Meeting_allTicks
  refine pL2_of (fun x1 x2 => ((-9223372036854775808) ≤ x1 ∧ x1 ≤ 9223372036854775807) ∧ (0 ≤ x2 ∧ x2 ≤ 1000000) ∧ True) (fun x1 x2 => (1000000 - x2).toNat) ⟨(by omega), (by omega), trivial⟩ (fun K x1 x2 h5 k6 => ?_)
  obtain ⟨i3, i4, -⟩ := h5
  have q7 : 0 ≤ (M 57 0) ∧ (M 57 0) ≤ 4 := BN.at hB (rfl : zcd wC 57 = 16) rfl
  have s8 : sI x2 = x2 := sIo (by omega) (by omega)
  have s9 : sI (M 57 0) = (M 57 0) := sIo (by omega) (by omega)
  refine ⟨fun c10 => ?_, fun c10 => ?_⟩
  · skip
    have s11 : sL x1 = x1 := sLo (by omega) (by omega)
    exact hQ _ ⟨(by omega), trivial⟩
  · skip
    have o12 : 0 ≤ (sI x2) ∧ (sI x2) < 4 := by omega
    refine ⟨o12, ?_⟩
    have q13 : 0 ≤ (M 58 (sI x2).toNat) ∧ (M 58 (sI x2).toNat) ≤ 24 := BN.at hB (rfl : zcd wC 58 = 17) rfl
    refine sC_leastMultiple hB (by omega) (by omega) (fun z14  h15 => ?_)
    obtain ⟨p16, -⟩ := h15
    exact k6 _ _ ⟨(by omega), (by omega), trivial⟩ (by omega)
set_option maxHeartbeats 4000000 in
set_option maxRecDepth 100000 in
theorem sC_all {M : zM}  (hB : BN wC M)  {Q : Int → zM → Prop} (hQ : ∀ (z : Int) (M1 : zM), BN wC M1 ∧ (∀ j9 : Nat, ¬ (57 ≤ j9 ∧ j9 ≤ 59) → M1 j9 = M j9) ∧ ((-9223372036854775808) ≤ z ∧ z ≤ 9223372036854775807) ∧ True → Q z M1) : wC_all  M Q := by
  unfold wC_all
  have hF0 : ∀ j9 : Nat, ¬ (57 ≤ j9 ∧ j9 ≤ 59) → M j9 = M j9 := fun j9 _ => rfl
  refine sC_Meeting_look hB  (fun  M1 h2 => ?_)
  obtain ⟨hB3, f4, -⟩ := h2
  have hF5 : ∀ j9 : Nat, ¬ (57 ≤ j9 ∧ j9 ≤ 59) → M1 j9 = M j9 := fun j9 h9 => ((f4 j9 (by omega)).trans (hF0 j9 h9))
  refine sC_Meeting_allTicks hB3  (fun z6  h7 => ?_)
  obtain ⟨p8, -⟩ := h7
  exact hQ _ _ ⟨hB3, hF5, (by omega), trivial⟩
set_option maxHeartbeats 4000000 in
set_option maxRecDepth 100000 in
theorem sC_isSounds {M : zM} {a0 : Int} (hB : BN wC M) (v0 : (-2147483648) ≤ a0 ∧ a0 ≤ 2147483647) {Q : Int → Prop} (hQ : ∀ (z : Int), (0 ≤ z ∧ z ≤ 1) ∧ ((z = 1 ∧ andI a0 (-1023) = 0) ∨ (z = 0 ∧ ¬ (andI a0 (-1023) = 0))) ∧ True → Q z) : wC_isSounds a0 M Q := by
  unfold wC_isSounds
  have q1 := andI_R a0 (-1023)
  refine ⟨fun c2 => ?_, fun c2 => ?_⟩
  · skip
    exact hQ _ ⟨(by omega), (by omega), trivial⟩
  · skip
    exact hQ _ ⟨(by omega), (by omega), trivial⟩
set_option maxHeartbeats 4000000 in
set_option maxRecDepth 100000 in
theorem sC_wish {M : zM} {a0 : Int} {a1 : Int} (hB : BN wC M) (v0 : (-2147483648) ≤ a0 ∧ a0 ≤ 2147483647) (v1 : (-2147483648) ≤ a1 ∧ a1 ≤ 2147483647) {Q : Int → zM → Prop} (hQ : ∀ (z : Int) (M1 : zM), BN wC M1 ∧ (∀ j9 : Nat, ¬ (32 ≤ j9 ∧ j9 ≤ 34 ∨ 41 ≤ j9 ∧ j9 ≤ 56) → M1 j9 = M j9) ∧ (0 ≤ z ∧ z ≤ 1) ∧ True → Q z M1) : wC_wish a0 a1 M Q := by
  unfold wC_wish
  have hF0 : ∀ j9 : Nat, ¬ (32 ≤ j9 ∧ j9 ≤ 34 ∨ 41 ≤ j9 ∧ j9 ≤ 56) → M j9 = M j9 := fun j9 _ => rfl
  refine sC_Studio_find hB (by omega) (fun h2 => ?_) (fun q1 h2 => ?_)
  · skip
    refine ⟨fun _ => ?_, fun q9 h9 => nomatch h9⟩
    exact hQ _ _ ⟨hB, hF0, (by omega), trivial⟩
  · skip
    refine ⟨(fun h9 => nomatch h9), fun q9 h9 => ?_⟩
    obtain rfl := Option.some.inj h9
    obtain ⟨⟨lt3, cd4⟩, h2⟩ := h2
    refine ⟨⟨lt3, cd4⟩, ?_⟩
    obtain ⟨lt5, cd6, lt7, cd8, lt9, cd10⟩ := nx_ring q1 lt3 cd4
    refine sC_isSounds hB (by omega) (fun z11  h12 => ?_)
    obtain ⟨p13, p14, -⟩ := h12
    refine ⟨fun c15 => ?_, fun c15 => ?_⟩
    · skip
      intro M16 e17
      have hB18 : BN wC M16 := by rw [e17]; exact BN.up hB cd4 rfl (by omega) (by omega)
      have hF19 : ∀ j9 : Nat, ¬ (32 ≤ j9 ∧ j9 ≤ 34 ∨ 41 ≤ j9 ∧ j9 ≤ 56) → M16 j9 = M j9 := fun j9 h9 => by rw [e17]; exact (zup_row _ _ (by omega)).trans (hF0 j9 h9)
      exact hQ _ _ ⟨hB18, hF19, (by omega), trivial⟩
    · skip
      exact hQ _ _ ⟨hB, hF0, (by omega), trivial⟩
set_option maxHeartbeats 4000000 in
set_option maxRecDepth 100000 in
theorem sC_Studio_meetsAt {M : zM} {a0 : Int} (hB : BN wC M)  {Q : Int → Prop} (hQ : ∀ (z : Int), (0 ≤ z ∧ z ≤ 1) ∧ True → Q z) : wC_Studio_meetsAt a0 M Q := by
  unfold wC_Studio_meetsAt
  refine pL1_of (fun x1 => (0 ≤ x1 ∧ x1 ≤ 1000000) ∧ True) (fun x1 => (1000000 - x1).toNat) ⟨(by omega), trivial⟩ (fun K x1 h3 k4 => ?_)
  obtain ⟨i2, -⟩ := h3
  have q5 : 0 ≤ (M 32 2) ∧ (M 32 2) ≤ 4 := BN.at hB (rfl : zcd wC 32 = 8) rfl
  have s6 : sI x1 = x1 := sIo (by omega) (by omega)
  have s7 : sI (M 32 2) = (M 32 2) := sIo (by omega) (by omega)
  refine ⟨fun c8 => ?_, fun c8 => ?_⟩
  · skip
    exact hQ _ ⟨(by omega), trivial⟩
  · skip
    have o9 : 0 ≤ (sI x1) ∧ (sI x1) < 4 := by omega
    refine ⟨o9, ?_⟩
    obtain ⟨lt10, cd11⟩ : (41 + 4 * (sI x1).toNat) < nC ∧ zcd wC (41 + 4 * (sI x1).toNat) = 14 := (by decide : ∀ k : Nat, k < 4 → (41 + 4 * k) < nC ∧ zcd wC (41 + 4 * k) = 14) (sI x1).toNat (by omega)
    obtain ⟨lt12, cd13, lt14, cd15, lt16, cd17⟩ := nx_ring (41 + 4 * (sI x1).toNat) lt10 cd11
    refine sC_Studio_grants hB lt10 cd11 (fun z18  h19 => ?_)
    obtain ⟨p20, -⟩ := h19
    refine ⟨fun c21 => ?_, fun c21 => ?_⟩
    · skip
      exact k4 _ ⟨(by omega), trivial⟩ (by omega)
    · skip
      exact hQ _ ⟨(by omega), trivial⟩
set_option maxHeartbeats 4000000 in
set_option maxRecDepth 100000 in
theorem sC_Meeting_sharedTicks {M : zM}  (hB : BN wC M)  {Q : Int → Prop} (hQ : ∀ (z : Int), ((-2147483648) ≤ z ∧ z ≤ 2147483647) ∧ True → Q z) : wC_Meeting_sharedTicks  M Q := by
  unfold wC_Meeting_sharedTicks
  refine pL2_of (fun x1 x2 => ((-9223372036854775808) ≤ x1 ∧ x1 ≤ 9223372036854775807) ∧ (0 ≤ x2 ∧ x2 ≤ 1000000) ∧ True) (fun x1 x2 => (1000000 - x2).toNat) ⟨(by omega), (by omega), trivial⟩ (fun K x1 x2 h5 k6 => ?_)
  obtain ⟨i3, i4, -⟩ := h5
  have q7 : 0 ≤ (M 57 0) ∧ (M 57 0) ≤ 4 := BN.at hB (rfl : zcd wC 57 = 16) rfl
  have s8 : sI x2 = x2 := sIo (by omega) (by omega)
  have s9 : sI (M 57 0) = (M 57 0) := sIo (by omega) (by omega)
  refine ⟨fun c10 => ?_, fun c10 => ?_⟩
  · skip
    have s11 := sI_R x1
    exact hQ _ ⟨(by omega), trivial⟩
  · skip
    refine pL2_of (fun x12 x13 => ((-9223372036854775808) ≤ x12 ∧ x12 ≤ 9223372036854775807) ∧ (0 ≤ x13 ∧ x13 ≤ 1000000) ∧ True) (fun x12 x13 => (1000000 - x13).toNat) ⟨(by omega), (by omega), trivial⟩ (fun K x12 x13 h16 k17 => ?_)
    obtain ⟨i14, i15, -⟩ := h16
    have q18 : 0 ≤ (M 57 0) ∧ (M 57 0) ≤ 4 := BN.at hB (rfl : zcd wC 57 = 16) rfl
    have s19 : sI x13 = x13 := sIo (by omega) (by omega)
    have s20 : sI (M 57 0) = (M 57 0) := sIo (by omega) (by omega)
    refine ⟨fun c21 => ?_, fun c21 => ?_⟩
    · skip
      exact k6 _ _ ⟨(by omega), (by omega), trivial⟩ (by omega)
    · skip
      have s22 : sI x2 = x2 := sIo (by omega) (by omega)
      have o23 : 0 ≤ (sI x2) ∧ (sI x2) < 4 := by omega
      refine ⟨o23, ?_⟩
      have q24 : 0 ≤ (M 58 (sI x2).toNat) ∧ (M 58 (sI x2).toNat) ≤ 24 := BN.at hB (rfl : zcd wC 58 = 17) rfl
      have o25 : 0 ≤ (sI x13) ∧ (sI x13) < 4 := by omega
      refine ⟨o25, ?_⟩
      have q26 : 0 ≤ (M 58 (sI x13).toNat) ∧ (M 58 (sI x13).toNat) ≤ 24 := BN.at hB (rfl : zcd wC 58 = 17) rfl
      have s27 : sI (M 58 (sI x13).toNat) = (M 58 (sI x13).toNat) := sIo (by omega) (by omega)
      refine sC_greatestDivisor hB (by omega) (by omega) (fun z28  h29 => ?_)
      obtain ⟨p30, p31, -⟩ := h29
      refine sC_leastMultiple hB (by omega) (by omega) (fun z32  h33 => ?_)
      obtain ⟨p34, -⟩ := h33
      exact k17 _ _ ⟨(by omega), (by omega), trivial⟩ (by omega)
set_option maxHeartbeats 4000000 in
set_option maxRecDepth 100000 in
theorem sC_Meeting_turnsAlike {M : zM} {a0 : Int} {a1 : Int} {a2 : Int} (hB : BN wC M) (v0 : 0 ≤ a0 ∧ a0 ≤ 3) (v1 : (-2147483648) ≤ a1 ∧ a1 ≤ 2147483647) (v2 : 0 ≤ a2 ∧ a2 ≤ 24) {Q : Int → Prop} (hQ : ∀ (z : Int), ((-2147483648) ≤ z ∧ z ≤ 2147483647) ∧ True → Q z) : wC_Meeting_turnsAlike a0 a1 a2 M Q := by
  unfold wC_Meeting_turnsAlike
  have s1 : sI a1 = a1 := sIo (by omega) (by omega)
  refine sC_by hB (by omega) (fun z2  h3 => ?_)
  obtain ⟨p4, p5, p6, -⟩ := h3
  refine pL2_of (fun x7 x8 => (0 ≤ x8 ∧ x8 ≤ 48) ∧ True) (fun x7 x8 => (48 - x8).toNat) ⟨(by omega), trivial⟩ (fun K x7 x8 h10 k11 => ?_)
  obtain ⟨i9, -⟩ := h10
  have s12 : sI a0 = a0 := sIo (by omega) (by omega)
  have o13 : 0 ≤ (sI a0) ∧ (sI a0) < 4 := by omega
  refine ⟨o13, ?_⟩
  have q14 : 0 ≤ (M 58 (sI a0).toNat) ∧ (M 58 (sI a0).toNat) ≤ 24 := BN.at hB (rfl : zcd wC 58 = 17) rfl
  have s15 : sI x8 = x8 := sIo (by omega) (by omega)
  have s16 : sI (M 58 (sI a0).toNat) = (M 58 (sI a0).toNat) := sIo (by omega) (by omega)
  refine ⟨fun c17 => ?_, fun c17 => ?_⟩
  · skip
    have s18 := sI_R x7
    exact hQ _ ⟨(by omega), trivial⟩
  · skip
    have o19 : 0 ≤ (sI a0) ∧ (sI a0) < 4 := by omega
    refine ⟨o19, ?_⟩
    have q20 : (-2147483648) ≤ (M 59 (sI a0).toNat) ∧ (M 59 (sI a0).toNat) ≤ 2147483647 := BN.at hB (rfl : zcd wC 59 = 18) rfl
    have q21 := shrI_R (M 59 (sI a0).toNat) x8
    have q22 := andI_br (shrI (M 59 (sI a0).toNat) x8) (c := 1) (by decide) (by decide)
    intro t23 e24
    have s25 : sI a2 = a2 := sIo (by omega) (by omega)
    exact k11 _ _ ⟨(by omega), trivial⟩ (by omega)
set_option maxHeartbeats 4000000 in
set_option maxRecDepth 100000 in
theorem sC_Meeting_howOften {M : zM}  (hB : BN wC M)  {Q : Int → Prop} (hQ : ∀ (z : Int), ((-9223372036854775808) ≤ z ∧ z ≤ 9223372036854775807) ∧ True → Q z) : wC_Meeting_howOften  M Q := by
  unfold wC_Meeting_howOften
  refine sC_Meeting_sharedTicks hB  (fun z1  h2 => ?_)
  obtain ⟨p3, -⟩ := h2
  refine pL2_of (fun x4 x5 => (0 ≤ x5 ∧ x5 ≤ 2147483647) ∧ True) (fun x4 x5 => (2147483647 - x5).toNat) ⟨(by omega), trivial⟩ (fun K x4 x5 h7 k8 => ?_)
  obtain ⟨i6, -⟩ := h7
  have s9 : sI x5 = x5 := sIo (by omega) (by omega)
  refine ⟨fun c10 => ?_, fun c10 => ?_⟩
  · skip
    have s11 := sL_R x4
    exact hQ _ ⟨(by omega), trivial⟩
  · skip
    refine pL2_of (fun x12 x13 => (0 ≤ x13 ∧ x13 ≤ 1000000) ∧ True) (fun x12 x13 => (1000000 - x13).toNat) ⟨(by omega), trivial⟩ (fun K x12 x13 h15 k16 => ?_)
    obtain ⟨i14, -⟩ := h15
    have q17 : 0 ≤ (M 57 0) ∧ (M 57 0) ≤ 4 := BN.at hB (rfl : zcd wC 57 = 16) rfl
    have s18 : sI x13 = x13 := sIo (by omega) (by omega)
    have s19 : sI (M 57 0) = (M 57 0) := sIo (by omega) (by omega)
    refine ⟨fun c20 => ?_, fun c20 => ?_⟩
    · skip
      exact k8 _ _ ⟨(by omega), trivial⟩ (by omega)
    · skip
      have o21 : 0 ≤ (sI x13) ∧ (sI x13) < 4 := by omega
      refine ⟨o21, ?_⟩
      have q22 : 0 ≤ (M 58 (sI x13).toNat) ∧ (M 58 (sI x13).toNat) ≤ 24 := BN.at hB (rfl : zcd wC 58 = 17) rfl
      refine sC_greatestDivisor hB (by omega) (by omega) (fun z23  h24 => ?_)
      obtain ⟨p25, p26, -⟩ := h24
      refine sC_Meeting_turnsAlike hB (by omega) (by omega) (by omega) (fun z27  h28 => ?_)
      obtain ⟨p29, -⟩ := h28
      exact k16 _ _ ⟨(by omega), trivial⟩ (by omega)
set_option maxHeartbeats 4000000 in
set_option maxRecDepth 100000 in
theorem sC_Meeting_ticksToTurn {M : zM} {a0 : Int} {a1 : Int} (hB : BN wC M) (v0 : 0 ≤ a0 ∧ a0 ≤ 3) (v1 : (-2147483648) ≤ a1 ∧ a1 ≤ 2147483647) {Q : Int → Prop} (hQ : ∀ (z : Int), ((-2147483648) ≤ z ∧ z ≤ 2147483647) ∧ True → Q z) : wC_Meeting_ticksToTurn a0 a1 M Q := by
  unfold wC_Meeting_ticksToTurn
  have s1 : sI a0 = a0 := sIo (by omega) (by omega)
  have o2 : 0 ≤ (sI a0) ∧ (sI a0) < 4 := by omega
  refine ⟨o2, ?_⟩
  have q3 : 0 ≤ (M 58 (sI a0).toNat) ∧ (M 58 (sI a0).toNat) ≤ 24 := BN.at hB (rfl : zcd wC 58 = 17) rfl
  refine pL1_of (fun x4 => (0 ≤ x4 ∧ x4 ≤ 1000000) ∧ True) (fun x4 => (1000000 - x4).toNat) ⟨(by omega), trivial⟩ (fun K x4 h6 k7 => ?_)
  obtain ⟨i5, -⟩ := h6
  have s8 : sI x4 = x4 := sIo (by omega) (by omega)
  have s9 : sI (M 58 (sI a0).toNat) = (M 58 (sI a0).toNat) := sIo (by omega) (by omega)
  refine ⟨fun c10 => ?_, fun c10 => ?_⟩
  · skip
    exact hQ _ ⟨(by omega), trivial⟩
  · skip
    have s11 : sI a0 = a0 := sIo (by omega) (by omega)
    have o12 : 0 ≤ (sI a0) ∧ (sI a0) < 4 := by omega
    refine ⟨o12, ?_⟩
    have q13 : (-2147483648) ≤ (M 59 (sI a0).toNat) ∧ (M 59 (sI a0).toNat) ≤ 2147483647 := BN.at hB (rfl : zcd wC 59 = 18) rfl
    have s14 := sI_R (a1 + x4)
    refine sC_by hB (by omega) (fun z15  h16 => ?_)
    obtain ⟨p17, p18, p19, -⟩ := h16
    have q20 := shrI_R (M 59 (sI a0).toNat) z15
    have q21 := andI_br (shrI (M 59 (sI a0).toNat) z15) (c := 1) (by decide) (by decide)
    refine ⟨fun c22 => ?_, fun c22 => ?_⟩
    · skip
      exact k7 _ ⟨(by omega), trivial⟩ (by omega)
    · skip
      exact hQ _ ⟨(by omega), trivial⟩
set_option maxHeartbeats 4000000 in
set_option maxRecDepth 100000 in
theorem sC_Meeting_firstSteady {M : zM} {a0 : Int} (hB : BN wC M) (v0 : (-9223372036854775808) ≤ a0 ∧ a0 ≤ 9223372036854775807) {Q : Int → Prop} (hQ : ∀ (z : Int), ((-9223372036854775808) ≤ z ∧ z ≤ 9223372036854775807) ∧ True → Q z) : wC_Meeting_firstSteady a0 M Q := by
  unfold wC_Meeting_firstSteady
  refine sC_Meeting_allTicks hB  (fun z1  h2 => ?_)
  obtain ⟨p3, -⟩ := h2
  refine pL2_of (fun x4 x5 => (0 ≤ x5 ∧ x5 ≤ 9223372036854775807) ∧ True) (fun x4 x5 => (9223372036854775807 - x5).toNat) ⟨(by omega), trivial⟩ (fun K x4 x5 h7 k8 => ?_)
  obtain ⟨i6, -⟩ := h7
  have s9 : sL x5 = x5 := sLo (by omega) (by omega)
  refine ⟨fun c10 => ?_, fun c10 => ?_⟩
  · skip
    exact hQ _ ⟨(by omega), trivial⟩
  · skip
    have s11 := sL_R x4
    have s12 := sL_R (a0 + z1)
    refine ⟨fun c13 => ?_, fun c13 => ?_⟩
    · skip
      exact hQ _ ⟨(by omega), trivial⟩
    · skip
      refine pL2_of (fun x14 x15 => (0 ≤ x15 ∧ x15 ≤ 1000000) ∧ True) (fun x14 x15 => (1000000 - x15).toNat) ⟨(by omega), trivial⟩ (fun K x14 x15 h17 k18 => ?_)
      obtain ⟨i16, -⟩ := h17
      have q19 : 0 ≤ (M 57 0) ∧ (M 57 0) ≤ 4 := BN.at hB (rfl : zcd wC 57 = 16) rfl
      have s20 : sI x15 = x15 := sIo (by omega) (by omega)
      have s21 : sI (M 57 0) = (M 57 0) := sIo (by omega) (by omega)
      refine ⟨fun c22 => ?_, fun c22 => ?_⟩
      · skip
        have s23 := sL_R x14
        have s24 := sL_R x4
        refine ⟨fun c25 => ?_, fun c25 => ?_⟩
        · skip
          exact k8 _ _ ⟨(by omega), trivial⟩ (by omega)
        · skip
          exact hQ _ ⟨(by omega), trivial⟩
      · skip
        have q26 : 0 ≤ (M 57 1) ∧ (M 57 1) ≤ 5000 := BN.at hB (rfl : zcd wC 57 = 16) rfl
        have o27 : 0 ≤ (sI x15) ∧ (sI x15) < 4 := by omega
        refine ⟨o27, ?_⟩
        have q28 : 0 ≤ (M 58 (sI x15).toNat) ∧ (M 58 (sI x15).toNat) ≤ 24 := BN.at hB (rfl : zcd wC 58 = 17) rfl
        refine sC_by hB (by omega) (fun z29  h30 => ?_)
        obtain ⟨p31, p32, p33, -⟩ := h30
        refine sC_Meeting_ticksToTurn hB (by omega) (by omega) (fun z34  h35 => ?_)
        obtain ⟨p36, -⟩ := h35
        exact k18 _ _ ⟨(by omega), trivial⟩ (by omega)
set_option maxHeartbeats 4000000 in
set_option maxRecDepth 100000 in
theorem sC_Meeting_first {M : zM} {a1 : Int} (hB : BN wC M) (v1 : 0 ≤ a1 ∧ a1 ≤ 1152921504606846976) {Q : Int → Prop} (hQ : ∀ (z : Int), ((-9223372036854775808) ≤ z ∧ z ≤ 9223372036854775807) ∧ True → Q z) : wC_Meeting_first a1 M Q := by
  unfold wC_Meeting_first
  refine pL1_of (fun x1 => (0 ≤ x1 ∧ x1 ≤ 9223372036854775807) ∧ True) (fun x1 => (9223372036854775807 - x1).toNat) ⟨(by omega), trivial⟩ (fun K x1 h3 k4 => ?_)
  obtain ⟨i2, -⟩ := h3
  have q5 : 0 ≤ (M 57 1) ∧ (M 57 1) ≤ 5000 := BN.at hB (rfl : zcd wC 57 = 16) rfl
  have s6 : sL x1 = x1 := sLo (by omega) (by omega)
  have s7 : sL (M 57 1) = (M 57 1) := sLo (by omega) (by omega)
  refine ⟨fun c8 => ?_, fun c8 => ?_⟩
  · skip
    refine sC_Meeting_howOften hB  (fun z9  h10 => ?_)
    obtain ⟨p11, -⟩ := h10
    refine ⟨fun c12 => ?_, fun c12 => ?_⟩
    · skip
      have s14 : sL a1 = a1 := sLo (by omega) (by omega)
      refine sC_Meeting_firstSteady hB (by omega) (fun z15  h16 => ?_)
      obtain ⟨p17, -⟩ := h16
      exact hQ _ ⟨(by omega), trivial⟩
    · skip
      exact hQ _ ⟨(by omega), trivial⟩
  · skip
    refine sC_Studio_meetsAt hB  (fun z18  h19 => ?_)
    obtain ⟨p20, -⟩ := h19
    refine ⟨fun c21 => ?_, fun c21 => ?_⟩
    · skip
      exact k4 _ ⟨(by omega), trivial⟩ (by omega)
    · skip
      exact hQ _ ⟨(by omega), trivial⟩
set_option maxHeartbeats 4000000 in
set_option maxRecDepth 100000 in
theorem sC_meets {M : zM} {a0 : Int} (hB : BN wC M) (v0 : (-9223372036854775808) ≤ a0 ∧ a0 ≤ 9223372036854775807) {Q : Int → zM → Prop} (hQ : ∀ (z : Int) (M1 : zM), BN wC M1 ∧ (∀ j9 : Nat, ¬ (57 ≤ j9 ∧ j9 ≤ 59) → M1 j9 = M j9) ∧ ((-9223372036854775808) ≤ z ∧ z ≤ 9223372036854775807) ∧ True → Q z M1) : wC_meets a0 M Q := by
  unfold wC_meets
  have hF0 : ∀ j9 : Nat, ¬ (57 ≤ j9 ∧ j9 ≤ 59) → M j9 = M j9 := fun j9 _ => rfl
  have s1 : sL a0 = a0 := sLo (by omega) (by omega)
  refine ⟨fun c2 => ?_, fun c2 => ?_⟩
  · skip
    exact hQ _ _ ⟨hB, hF0, (by omega), trivial⟩
  · skip
    refine ⟨fun c3 => ?_, fun c3 => ?_⟩
    · skip
      refine sC_Meeting_look hB  (fun  M4 h5 => ?_)
      obtain ⟨hB6, f7, -⟩ := h5
      have hF8 : ∀ j9 : Nat, ¬ (57 ≤ j9 ∧ j9 ≤ 59) → M4 j9 = M j9 := fun j9 h9 => ((f7 j9 (by omega)).trans (hF0 j9 h9))
      refine sC_Meeting_first hB6 (by omega) (fun z9  h10 => ?_)
      obtain ⟨p11, -⟩ := h10
      exact hQ _ _ ⟨hB6, hF8, (by omega), trivial⟩
    · skip
      exact hQ _ _ ⟨hB, hF0, (by omega), trivial⟩
set_option maxHeartbeats 4000000 in
set_option maxRecDepth 100000 in
theorem sC_often {M : zM}  (hB : BN wC M)  {Q : Int → zM → Prop} (hQ : ∀ (z : Int) (M1 : zM), BN wC M1 ∧ (∀ j9 : Nat, ¬ (57 ≤ j9 ∧ j9 ≤ 59) → M1 j9 = M j9) ∧ ((-9223372036854775808) ≤ z ∧ z ≤ 9223372036854775807) ∧ True → Q z M1) : wC_often  M Q := by
  unfold wC_often
  have hF0 : ∀ j9 : Nat, ¬ (57 ≤ j9 ∧ j9 ≤ 59) → M j9 = M j9 := fun j9 _ => rfl
  refine sC_Meeting_look hB  (fun  M1 h2 => ?_)
  obtain ⟨hB3, f4, -⟩ := h2
  have hF5 : ∀ j9 : Nat, ¬ (57 ≤ j9 ∧ j9 ≤ 59) → M1 j9 = M j9 := fun j9 h9 => ((f4 j9 (by omega)).trans (hF0 j9 h9))
  refine sC_Meeting_howOften hB3  (fun z6  h7 => ?_)
  obtain ⟨p8, -⟩ := h7
  exact hQ _ _ ⟨hB3, hF5, (by omega), trivial⟩
set_option maxHeartbeats 4000000 in
set_option maxRecDepth 100000 in
theorem sC_isSound {M : zM} {a0 : Int} (hB : BN wC M) (v0 : (-2147483648) ≤ a0 ∧ a0 ≤ 2147483647) {Q : Int → Prop} (hQ : ∀ (z : Int), (0 ≤ z ∧ z ≤ 1) ∧ ((z = 1 ∧ 1 ≤ a0 ∧ a0 ≤ 9) ∨ (z = 0 ∧ ¬ (1 ≤ a0 ∧ a0 ≤ 9))) ∧ True → Q z) : wC_isSound a0 M Q := by
  unfold wC_isSound
  refine sC_within hB (by omega) (by omega) (by omega) (fun z1  h2 => ?_)
  obtain ⟨p3, p4, -⟩ := h2
  exact hQ _ ⟨(by omega), (by omega), trivial⟩
set_option maxHeartbeats 4000000 in
set_option maxRecDepth 100000 in
theorem sC_Planner_add {M : zM} {a0 : Int} {a1 : Int} (hB : BN wC M) (v0 : 0 ≤ a0 ∧ a0 ≤ 100000) (v1 : 1 ≤ a1 ∧ a1 ≤ 9) {Q : Int → zM → Prop} (hQ : ∀ (z : Int) (M1 : zM), BN wC M1 ∧ (∀ j9 : Nat, ¬ (60 ≤ j9 ∧ j9 ≤ 77) → M1 j9 = M j9) ∧ ((-2147483648) ≤ z ∧ z ≤ 2147483647) ∧ ((M 60 2 < 6 ∧ z = M 60 2 + 1 ∧ M1 60 2 = M 60 2 + 1) ∨ (M 60 2 = 6 ∧ z = -1 ∧ M1 60 2 = M 60 2)) ∧ True → Q z M1) : wC_Planner_add a0 a1 M Q := by
  unfold wC_Planner_add
  have hF0 : ∀ j9 : Nat, ¬ (60 ≤ j9 ∧ j9 ≤ 77) → M j9 = M j9 := fun j9 _ => rfl
  have q1 : 0 ≤ (M 60 2) ∧ (M 60 2) ≤ 6 := BN.at hB (rfl : zcd wC 60 = 19) rfl
  have s2 : sI (M 60 2) = (M 60 2) := sIo (by omega) (by omega)
  refine ⟨fun c3 => ?_, fun c3 => ?_⟩
  · skip
    have o5 : 0 ≤ (sI (M 60 2)) ∧ (sI (M 60 2)) < 6 := by omega
    refine ⟨o5, ?_⟩
    intro M6 e7
    have hB8 : BN wC M6 := by rw [e7]; exact BN.up hB (rfl : zcd wC 61 = 20) rfl (by omega) (by omega)
    have hF9 : ∀ j9 : Nat, ¬ (60 ≤ j9 ∧ j9 ≤ 77) → M6 j9 = M j9 := fun j9 h9 => by rw [e7]; exact (zup_row _ _ (by omega)).trans (hF0 j9 h9)
    have r10 : M6 60 2 = M 60 2 := by rw [e7]; exact zup_n _ _ (by omega)
    have q11 : 0 ≤ (M6 60 2) ∧ (M6 60 2) ≤ 6 := BN.at hB8 (rfl : zcd wC 60 = 19) rfl
    have s12 : sI (M6 60 2) = (M6 60 2) := sIo (by omega) (by omega)
    have o13 : 0 ≤ (sI (M6 60 2)) ∧ (sI (M6 60 2)) < 6 := by omega
    refine ⟨o13, ?_⟩
    intro M14 e15
    have hB16 : BN wC M14 := by rw [e15]; exact BN.up hB8 (rfl : zcd wC 62 = 21) rfl (by omega) (by omega)
    have hF17 : ∀ j9 : Nat, ¬ (60 ≤ j9 ∧ j9 ≤ 77) → M14 j9 = M j9 := fun j9 h9 => by rw [e15]; exact (zup_row _ _ (by omega)).trans (hF9 j9 h9)
    have r18 : M14 60 2 = M6 60 2 := by rw [e15]; exact zup_n _ _ (by omega)
    have q19 : 0 ≤ (M14 60 2) ∧ (M14 60 2) ≤ 6 := BN.at hB16 (rfl : zcd wC 60 = 19) rfl
    intro M20 e21
    have hB22 : BN wC M20 := by rw [e21]; exact BN.up hB16 (rfl : zcd wC 60 = 19) rfl (by omega) (by omega)
    have hF23 : ∀ j9 : Nat, ¬ (60 ≤ j9 ∧ j9 ≤ 77) → M20 j9 = M j9 := fun j9 h9 => by rw [e21]; exact (zup_row _ _ (by omega)).trans (hF17 j9 h9)
    have r24 : M20 60 2 = ((M14 60 2) + 1) := by rw [e21]; exact zup_s _ _ _ _
    have q25 : 0 ≤ (M20 60 2) ∧ (M20 60 2) ≤ 6 := BN.at hB22 (rfl : zcd wC 60 = 19) rfl
    have s26 : sI (M20 60 2) = (M20 60 2) := sIo (by omega) (by omega)
    exact hQ _ _ ⟨hB22, hF23, (by omega), (by omega), trivial⟩
  · skip
    exact hQ _ _ ⟨hB, hF0, (by omega), (by omega), trivial⟩
set_option maxHeartbeats 4000000 in
set_option maxRecDepth 100000 in
theorem sC_mark {M : zM} {a0 : Int} {a1 : Int} (hB : BN wC M) (v0 : (-2147483648) ≤ a0 ∧ a0 ≤ 2147483647) (v1 : (-2147483648) ≤ a1 ∧ a1 ≤ 2147483647) {Q : Int → zM → Prop} (hQ : ∀ (z : Int) (M1 : zM), BN wC M1 ∧ (∀ j9 : Nat, ¬ (60 ≤ j9 ∧ j9 ≤ 77) → M1 j9 = M j9) ∧ ((-2147483648) ≤ z ∧ z ≤ 2147483647) ∧ ((0 ≤ a0 ∧ a0 ≤ 100000 ∧ 1 ≤ a1 ∧ a1 ≤ 9 ∧ M 60 2 < 6 ∧ z = M 60 2 + 1 ∧ M1 60 2 = M 60 2 + 1) ∨ (¬ (0 ≤ a0 ∧ a0 ≤ 100000 ∧ 1 ≤ a1 ∧ a1 ≤ 9 ∧ M 60 2 < 6) ∧ z = -1 ∧ M1 60 2 = M 60 2)) ∧ True → Q z M1) : wC_mark a0 a1 M Q := by
  unfold wC_mark
  have hF0 : ∀ j9 : Nat, ¬ (60 ≤ j9 ∧ j9 ≤ 77) → M j9 = M j9 := fun j9 _ => rfl
  refine sC_within hB (by omega) (by omega) (by omega) (fun z1  h2 => ?_)
  obtain ⟨p3, p4, -⟩ := h2
  refine ⟨fun c5 => ?_, fun c5 => ?_⟩
  · skip
    exact hQ _ _ ⟨hB, hF0, (by omega), (by omega), trivial⟩
  · skip
    refine sC_isSound hB (by omega) (fun z6  h7 => ?_)
    obtain ⟨p8, p9, -⟩ := h7
    refine ⟨fun c10 => ?_, fun c10 => ?_⟩
    · skip
      refine sC_Planner_add hB (by omega) (by omega) (fun z11 M12 h13 => ?_)
      obtain ⟨hB14, f15, p16, p17, -⟩ := h13
      have hF18 : ∀ j9 : Nat, ¬ (60 ≤ j9 ∧ j9 ≤ 77) → M12 j9 = M j9 := fun j9 h9 => ((f15 j9 (by omega)).trans (hF0 j9 h9))
      exact hQ _ _ ⟨hB14, hF18, (by omega), (by omega), trivial⟩
    · skip
      exact hQ _ _ ⟨hB, hF0, (by omega), (by omega), trivial⟩
set_option maxHeartbeats 4000000 in
set_option maxRecDepth 100000 in
theorem sC_Planner_marksTrue {M : zM}  (hB : BN wC M)  {Q : Int → Prop} (hQ : ∀ (z : Int), ((-2147483648) ≤ z ∧ z ≤ 2147483647) ∧ True → Q z) : wC_Planner_marksTrue  M Q := by
  unfold wC_Planner_marksTrue
  refine pL2_of (fun x1 x2 => (0 ≤ x2 ∧ x2 ≤ 1000000) ∧ True) (fun x1 x2 => (1000000 - x2).toNat) ⟨(by omega), trivial⟩ (fun K x1 x2 h4 k5 => ?_)
  obtain ⟨i3, -⟩ := h4
  have q6 : 0 ≤ (M 60 2) ∧ (M 60 2) ≤ 6 := BN.at hB (rfl : zcd wC 60 = 19) rfl
  have s7 : sI x2 = x2 := sIo (by omega) (by omega)
  have s8 : sI (M 60 2) = (M 60 2) := sIo (by omega) (by omega)
  refine ⟨fun c9 => ?_, fun c9 => ?_⟩
  · skip
    have s10 := sI_R x1
    exact hQ _ ⟨(by omega), trivial⟩
  · skip
    have o11 : 0 ≤ (sI x2) ∧ (sI x2) < 6 := by omega
    refine ⟨o11, ?_⟩
    have q12 : 0 ≤ (M 61 (sI x2).toNat) ∧ (M 61 (sI x2).toNat) ≤ 100000 := BN.at hB (rfl : zcd wC 61 = 20) rfl
    have s13 : sI (M 61 (sI x2).toNat) = (M 61 (sI x2).toNat) := sIo (by omega) (by omega)
    refine sC_Studio_heardInAll hB  (fun z14  h15 => ?_)
    obtain ⟨p16, -⟩ := h15
    have o17 : 0 ≤ (sI x2) ∧ (sI x2) < 6 := by omega
    refine ⟨o17, ?_⟩
    have q18 : 0 ≤ (M 62 (sI x2).toNat) ∧ (M 62 (sI x2).toNat) ≤ 9 := BN.at hB (rfl : zcd wC 62 = 21) rfl
    have q19 := shrI_R z14 (M 62 (sI x2).toNat)
    have q20 := andI_br (shrI z14 (M 62 (sI x2).toNat)) (c := 1) (by decide) (by decide)
    have q21 := shlI_R (andI (shrI z14 (M 62 (sI x2).toNat)) 1) x2
    have q22 := orI_R x1 (shlI (andI (shrI z14 (M 62 (sI x2).toNat)) 1) x2)
    intro t23 e24
    exact k5 _ _ ⟨(by omega), trivial⟩ (by omega)
set_option maxHeartbeats 4000000 in
set_option maxRecDepth 100000 in
theorem sC_kept {M : zM}  (hB : BN wC M)  {Q : Int → Prop} (hQ : ∀ (z : Int), ((-2147483648) ≤ z ∧ z ≤ 2147483647) ∧ True → Q z) : wC_kept  M Q := by
  unfold wC_kept
  refine sC_Planner_marksTrue hB  (fun z1  h2 => ?_)
  obtain ⟨p3, -⟩ := h2
  exact hQ _ ⟨(by omega), trivial⟩
theorem sC_fill {M : zM} {a0 : Nat} {a1 : Int} (hB : BN wC M) (lt_a0 : a0 < nC) {q : Nat} {lo hi : Int} (cd_a0 : zcd wC a0 = q) (v1 : -2147483648 ≤ a1 ∧ a1 ≤ 2147483647) (p0 : ∀ k, cbt q k = (lo, hi)) (p1 : lo ≤ a1) (p2 : a1 ≤ hi) {Q : zM → Prop} (hQ : ∀ M1, (BN wC M1 ∧ (∀ j9 : Nat, ¬ (j9 = a0) → M1 j9 = M j9) ∧ (∀ k : Nat, (k : Int) < (zln wC a0 : Int) → M1 a0 k = a1) ∧ True) → Q M1) : wC_fill a0 a1 M Q := by
  unfold wC_fill
  have hz : zln wC a0 < 10000 := (by decide : ∀ j, j < nC → zln wC j < 10000) a0 lt_a0
  refine wL1_of (fun x M4 => BN wC M4 ∧ (∀ j9 : Nat, ¬ (j9 = a0) → M4 j9 = M j9) ∧ (0 ≤ x ∧ x ≤ 1000000) ∧ (∀ k : Nat, (k : Int) < x → M4 a0 k = a1) ∧ True) (fun x _ => (1000000 - x).toNat) ⟨hB, fun _ _ => rfl, by omega, fun k h => by omega, trivial⟩ (fun K x M4 hI hK => ?_)
  obtain ⟨hB4, hF4, i1, i2, -⟩ := hI
  have s2 : sI x = x := sIo (by omega) (by omega)
  refine ⟨fun c => hQ _ ⟨hB4, hF4, fun k hk => i2 k (by omega), trivial⟩, fun c => ?_⟩
  refine ⟨⟨by omega, by omega⟩, ?_⟩
  intro M5 e5
  refine hK _ _ ⟨by rw [e5]; exact BN.up hB4 cd_a0 (p0 _) p1 p2, fun j9 h9 => by rw [e5, zup_row _ _ h9]; exact hF4 j9 h9, by omega, fun k hk => ?_, trivial⟩ (by omega)
  rw [e5]
  by_cases h : k = (sI x).toNat
  · subst h
    exact zup_s _ _ _ _
  · rw [zup_n _ _ (fun q => h q.2)]
    exact i2 k (by omega)
set_option maxHeartbeats 4000000 in
set_option maxRecDepth 100000 in
theorem sC_Planner_trueFrom {M : zM} {a0 : Int} {a1 : Int} (hB : BN wC M) (v0 : 0 ≤ a0 ∧ a0 ≤ 23) (v1 : 0 ≤ a1 ∧ a1 ≤ 24) {Q : Int → Prop} (hQ : ∀ (z : Int), (0 ≤ z ∧ z ≤ 63) ∧ True → Q z) : wC_Planner_trueFrom a0 a1 M Q := by
  unfold wC_Planner_trueFrom
  refine pL2_of (fun x1 x2 => (0 ≤ x1 ∧ x1 ≤ 63) ∧ (0 ≤ x2 ∧ x2 ≤ 1000000) ∧ True) (fun x1 x2 => (1000000 - x2).toNat) ⟨(by omega), (by omega), trivial⟩ (fun K x1 x2 h5 k6 => ?_)
  obtain ⟨i3, i4, -⟩ := h5
  have q7 : 0 ≤ (M 60 2) ∧ (M 60 2) ≤ 6 := BN.at hB (rfl : zcd wC 60 = 19) rfl
  have s8 : sI x2 = x2 := sIo (by omega) (by omega)
  have s9 : sI (M 60 2) = (M 60 2) := sIo (by omega) (by omega)
  refine ⟨fun c10 => ?_, fun c10 => ?_⟩
  · skip
    have s11 : sI x1 = x1 := sIo (by omega) (by omega)
    exact hQ _ ⟨(by omega), trivial⟩
  · skip
    have o12 : 0 ≤ (sI x2) ∧ (sI x2) < 6 := by omega
    refine ⟨o12, ?_⟩
    have q13 : (-2147483648) ≤ (M 77 (sI x2).toNat) ∧ (M 77 (sI x2).toNat) ≤ 2147483647 := BN.at hB (rfl : zcd wC 77 = 29) rfl
    have s14 := sI_R (a0 + (M 77 (sI x2).toNat))
    refine sC_by hB (by omega) (fun z15  h16 => ?_)
    obtain ⟨p17, p18, p19, -⟩ := h16
    have o20 : 0 ≤ z15 ∧ z15 < 24 := by omega
    refine ⟨o20, ?_⟩
    have q21 : (-2147483648) ≤ (M 76 z15.toNat) ∧ (M 76 z15.toNat) ≤ 2147483647 := BN.at hB (rfl : zcd wC 76 = 28) rfl
    have o22 : 0 ≤ (sI x2) ∧ (sI x2) < 6 := by omega
    refine ⟨o22, ?_⟩
    have q23 : 0 ≤ (M 62 (sI x2).toNat) ∧ (M 62 (sI x2).toNat) ≤ 9 := BN.at hB (rfl : zcd wC 62 = 21) rfl
    have q24 := shrI_R (M 76 z15.toNat) (M 62 (sI x2).toNat)
    have q25 := andI_br (shrI (M 76 z15.toNat) (M 62 (sI x2).toNat)) (c := 1) (by decide) (by decide)
    have q26 := shl01 (andI (shrI (M 76 z15.toNat) (M 62 (sI x2).toNat)) 1) x2 (by omega) (by omega) (by omega) (by omega)
    have q27 := or64 x1 (shlI (andI (shrI (M 76 z15.toNat) (M 62 (sI x2).toNat)) 1) x2) (by omega) (by omega) (by omega) (by omega)
    intro t28 e29
    exact k6 _ _ ⟨(by omega), (by omega), trivial⟩ (by omega)
set_option maxHeartbeats 4000000 in
set_option maxRecDepth 100000 in
theorem sC_Planner_listTrue {M : zM} {a0 : Nat} {a1 : Nat} {a2 : Nat} (hB : BN wC M) (lt_a0 : a0 < nC) (cd_a0 : zcd wC a0 = 14) (lt_a1 : a1 < nC) (cd_a1 : zcd wC a1 = 11) (lt_a2 : a2 < nC) (cd_a2 : zcd wC a2 = 24) {Q : zM → Prop} (hQ : ∀ (M1 : zM), BN wC M1 ∧ (∀ j9 : Nat, ¬ (j9 = a2 ∨ j9 = 76 ∨ j9 = 77) → M1 j9 = M j9) ∧ True → Q M1) : wC_Planner_listTrue a0 a1 a2 M Q := by
  unfold wC_Planner_listTrue
  have hF0 : ∀ j9 : Nat, ¬ (j9 = a2 ∨ j9 = 76 ∨ j9 = 77) → M j9 = M j9 := fun j9 _ => rfl
  have hln_a2 : zln wC a2 = 300 := zln_of cd_a2 rfl
  obtain ⟨lt1, cd2, lt3, cd4, lt5, cd6⟩ := nx_ring a0 lt_a0 cd_a0
  obtain ⟨lt7, cd8, lt9, cd10⟩ := nx_motor a1 lt_a1 cd_a1
  have q11 : 0 ≤ (M (a0 + 1) 1) ∧ (M (a0 + 1) 1) ≤ 24 := BN.at hB cd2 rfl
  refine wL2_of (fun x12 x13 M14 => BN wC M14 ∧ (∀ j9 : Nat, ¬ (j9 = a2 ∨ j9 = 76 ∨ j9 = 77) → M14 j9 = M j9) ∧ (0 ≤ x12 ∧ x12 ≤ 1000000) ∧ (0 ≤ x13 ∧ x13 ≤ 24) ∧ True) (fun x12 x13 M14 => (x13 + 1).toNat) ⟨hB, hF0, (by omega), (by omega), trivial⟩ (fun K x12 x13 M14 h19 k20 => ?_)
  obtain ⟨hB15, hF16, i17, i18, -⟩ := h19
  have s21 : sI x13 = x13 := sIo (by omega) (by omega)
  refine ⟨fun c22 => ?_, fun c22 => ?_⟩
  · skip
    exact hQ _ ⟨hB15, hF16, trivial⟩
  · skip
    refine sC_Ring_fillUnder hB15 lt_a0 cd_a0 (by decide) (rfl : zcd wC 76 = 28) (by omega) (fun _ => rfl) (fun  M23 h24 => ?_)
    obtain ⟨hB25, f26, -⟩ := h24
    have hF27 : ∀ j9 : Nat, ¬ (j9 = a2 ∨ j9 = 76 ∨ j9 = 77) → M23 j9 = M j9 := fun j9 h9 => ((f26 j9 (by omega)).trans (hF16 j9 h9))
    refine wL1_of (fun x28 M29 => BN wC M29 ∧ (∀ j9 : Nat, ¬ (j9 = a2 ∨ j9 = 76 ∨ j9 = 77) → M29 j9 = M j9) ∧ (0 ≤ x28 ∧ x28 ≤ 1000000) ∧ True) (fun x28 M29 => (1000000 - x28).toNat) ⟨hB25, hF27, (by omega), trivial⟩ (fun K x28 M29 h33 k34 => ?_)
    obtain ⟨hB30, hF31, i32, -⟩ := h33
    have q35 : 0 ≤ (M29 60 2) ∧ (M29 60 2) ≤ 6 := BN.at hB30 (rfl : zcd wC 60 = 19) rfl
    have s36 : sI x28 = x28 := sIo (by omega) (by omega)
    have s37 : sI (M29 60 2) = (M29 60 2) := sIo (by omega) (by omega)
    refine ⟨fun c38 => ?_, fun c38 => ?_⟩
    · skip
      refine wL2_of (fun x39 x40 M41 => BN wC M41 ∧ (∀ j9 : Nat, ¬ (j9 = a2 ∨ j9 = 76 ∨ j9 = 77) → M41 j9 = M j9) ∧ (0 ≤ x39 ∧ x39 ≤ 1000000) ∧ (0 ≤ x40 ∧ x40 ≤ 1000000) ∧ True) (fun x39 x40 M41 => (1000000 - x40).toNat) ⟨hB30, hF31, (by omega), (by omega), trivial⟩ (fun K x39 x40 M41 h46 k47 => ?_)
      obtain ⟨hB42, hF43, i44, i45, -⟩ := h46
      have s48 : sI x40 = x40 := sIo (by omega) (by omega)
      have s49 : sI x13 = x13 := sIo (by omega) (by omega)
      refine ⟨fun c50 => ?_, fun c50 => ?_⟩
      · skip
        exact k20 _ _ _ ⟨hB42, hF43, (by omega), (by omega), trivial⟩ (by omega)
      · skip
        have s51 : sI x39 = x39 := sIo (by omega) (by omega)
        refine ⟨fun c52 => ?_, fun c52 => ?_⟩
        · skip
          exact k20 _ _ _ ⟨hB42, hF43, (by omega), (by omega), trivial⟩ (by omega)
        · skip
          refine sC_Planner_trueFrom hB42 (by omega) (by omega) (fun z53  h54 => ?_)
          obtain ⟨p55, -⟩ := h54
          have o56 : 0 ≤ (sI x39) ∧ (sI x39) < (zln wC a2) := by omega
          refine ⟨o56, ?_⟩
          intro M57 e58
          have hB59 : BN wC M57 := by rw [e58]; exact BN.up hB42 cd_a2 rfl (by omega) (by omega)
          have hF60 : ∀ j9 : Nat, ¬ (j9 = a2 ∨ j9 = 76 ∨ j9 = 77) → M57 j9 = M j9 := fun j9 h9 => by rw [e58]; exact (zup_row _ _ (by omega)).trans (hF43 j9 h9)
          exact k47 _ _ _ ⟨hB59, hF60, (by omega), (by omega), trivial⟩ (by omega)
    · skip
      have o61 : 0 ≤ (sI x28) ∧ (sI x28) < 6 := by omega
      refine ⟨o61, ?_⟩
      have q62 : 0 ≤ (M29 61 (sI x28).toNat) ∧ (M29 61 (sI x28).toNat) ≤ 100000 := BN.at hB30 (rfl : zcd wC 61 = 20) rfl
      have s63 : sI (M29 61 (sI x28).toNat) = (M29 61 (sI x28).toNat) := sIo (by omega) (by omega)
      refine sC_Motor_wayBy hB30 lt_a1 cd_a1 (by omega) (fun z64  h65 => ?_)
      obtain ⟨p66, p67, p68, -⟩ := h65
      have o69 : 0 ≤ (sI x28) ∧ (sI x28) < 6 := by omega
      refine ⟨o69, ?_⟩
      intro M70 e71
      have hB72 : BN wC M70 := by rw [e71]; exact BN.up hB30 (rfl : zcd wC 77 = 29) rfl (by omega) (by omega)
      have hF73 : ∀ j9 : Nat, ¬ (j9 = a2 ∨ j9 = 76 ∨ j9 = 77) → M70 j9 = M j9 := fun j9 h9 => by rw [e71]; exact (zup_row _ _ (by omega)).trans (hF31 j9 h9)
      exact k34 _ _ ⟨hB72, hF73, (by omega), trivial⟩ (by omega)
/-- where a row begins in a triangle of rows, each shorter by one -/
def trI (n : Int) : Nat → Int
  | 0 => 0
  | c + 1 => trI n c + (n - c)
theorem trI_le0 : ∀ n : Nat, n < 25 → ∀ c : Nat, c < n → 0 ≤ trI n c ∧ trI n c + (n - c) ≤ 300 := by decide +kernel
theorem trI_le {n : Int} (h0 : 0 ≤ n) (h1 : n ≤ 24) {c : Nat} (hc : (c : Int) < n) : 0 ≤ trI n c ∧ trI n c + (n - c) ≤ 300 := by
  have h := trI_le0 n.toNat (by omega) c (by omega)
  rw [Int.toNat_of_nonneg h0] at h
  exact h
theorem trI_s (n : Int) (c : Int) (h : 0 ≤ c) : trI n (c + 1).toNat = trI n c.toNat + (n - c) := by
  rw [show (c + 1).toNat = c.toNat + 1 by omega]
  show trI n c.toNat + (n - (c.toNat : Int)) = _
  rw [Int.toNat_of_nonneg h]
theorem sC_Planner_cost {M : zM} {a0 : Nat} {a1 a2 : Int} (hB : BN wC M) (lt_a0 : a0 < nC) (cd_a0 : zcd wC a0 = 14) (v1 : 0 ≤ a1 ∧ a1 ≤ 23) (v2 : 0 ≤ a2 ∧ a2 ≤ 23) {Q : Int → Prop} (hQ : ∀ z, ((0 ≤ z ∧ z ≤ 200) ∧ z = 5 * a1 + absI (a2 - M a0 2) ∧ True) → Q z) : wC_Planner_cost a0 a1 a2 M Q := by
  unfold wC_Planner_cost
  have b : 0 ≤ M a0 2 ∧ M a0 2 ≤ 23 := BN.at hB cd_a0 rfl
  have s1 : sI (a2 - M a0 2) = a2 - M a0 2 := sIo (by omega) (by omega)
  have ab := absI_b (a2 - M a0 2)
  rw [s1, sIo (by omega) (by omega)]
  exact hQ _ ⟨by omega, rfl, trivial⟩
/-- what stands in cheapest: by which cut and start -/
def CHC (M : zM) (len : Int) (r a : Nat) (row : Nat → Int) : Prop := ∀ s : Nat, s < 64 → row s = 1000000 ∨ ∃ c t : Nat, (c : Int) < len ∧ (t : Int) < len - c ∧ M a (trI len c + t).toNat = s ∧ row s = 5 * c + absI (t - M r 2)
set_option maxHeartbeats 4000000 in
theorem sC_Planner_listCheapest {M : zM} {a0 a1 : Nat} (hB : BN wC M) (lt_a0 : a0 < nC) (cd_a0 : zcd wC a0 = 14) (lt_a1 : a1 < nC) (cd_a1 : zcd wC a1 = 24) {Q : zM → Prop} (hQ : ∀ M1, (BN wC M1 ∧ (∀ j9 : Nat, ¬ (j9 = 75) → M1 j9 = M j9) ∧ CHC M (M (a0 + 1) 1) a0 a1 (M1 75) ∧ True) → Q M1) : wC_Planner_listCheapest a0 a1 M Q := by
  unfold wC_Planner_listCheapest
  obtain ⟨lt1, cd1, -, -, -, -⟩ := nx_ring a0 lt_a0 cd_a0
  have hln : zln wC a1 = 300 := zln_of cd_a1 rfl
  have n0 : a0 ≠ 75 := by rintro rfl; exact absurd cd_a0 (by decide)
  have n1 : a0 + 1 ≠ 75 := by intro h; rw [h] at cd1; exact absurd cd1 (by decide)
  have n2 : a1 ≠ 75 := by rintro rfl; exact absurd cd_a1 (by decide)
  refine sC_fill hB (by decide) (rfl : zcd wC 75 = 27) (by omega) (fun _ => rfl) (by omega) (by omega) (fun M1 hp => ?_)
  obtain ⟨hB1, hF1, hfull, -⟩ := hp
  obtain ⟨L, eL⟩ : ∃ L, L = M (a0 + 1) 1 := ⟨_, rfl⟩
  rw [← eL] at hQ
  have bL : 0 ≤ L ∧ L ≤ 24 := by rw [eL]; exact BN.at hB cd1 rfl
  refine wL2_of (fun k c M4 => BN wC M4 ∧ (∀ j9 : Nat, ¬ (j9 = 75) → M4 j9 = M j9) ∧ (0 ≤ c ∧ c ≤ L) ∧ k = trI L c.toNat ∧ CHC M L a0 a1 (M4 75) ∧ True) (fun _ c _ => (100 - c).toNat) ⟨hB1, hF1, by omega, rfl, fun s hs => Or.inl (hfull s (by have hz75 : zln wC 75 = 64 := zln_of (rfl : zcd wC 75 = 27) rfl; omega)), trivial⟩ (fun K k c M4 hI hK => ?_)
  obtain ⟨hB4, hF4, ic, ik, iC, -⟩ := hI
  have s1 : sI (M4 (a0 + 1) 1) = L := by rw [hF4 _ n1, ← eL]; exact sIo (by omega) (by omega)
  have s2 : sI c = c := sIo (by omega) (by omega)
  refine ⟨fun c1 => hQ _ ⟨hB4, hF4, iC, trivial⟩, fun c1 => ?_⟩
  have hcl : c < L := by omega
  have tb := trI_le bL.1 bL.2 (c := c.toNat) (by omega)
  have hcn : (c.toNat : Int) = c := Int.toNat_of_nonneg ic.1
  refine wL2_of (fun k2 t M5 => BN wC M5 ∧ (∀ j9 : Nat, ¬ (j9 = 75) → M5 j9 = M j9) ∧ (0 ≤ t ∧ t ≤ L - c) ∧ k2 = trI L c.toNat + t ∧ CHC M L a0 a1 (M5 75) ∧ True) (fun _ t _ => (100 - t).toNat) ⟨hB4, hF4, by omega, by omega, iC, trivial⟩ (fun K2 k2 t M5 hI2 hK2 => ?_)
  obtain ⟨hB5, hF5, it, ik2, iC5, -⟩ := hI2
  have s3 : sI (M5 (a0 + 1) 1 - c) = L - c := by rw [hF5 _ n1, ← eL]; exact sIo (by omega) (by omega)
  have s4 : sI t = t := sIo (by omega) (by omega)
  have s5 : sI k2 = k2 := sIo (by omega) (by omega)
  refine ⟨fun c2 => hK _ _ _ ⟨hB5, hF5, by omega, ?_, iC5, trivial⟩ (by omega), fun c2 => ⟨fun c3 => absurd c3 (by omega), fun c3 => ?_⟩⟩
  · rw [trI_s L c ic.1]
    omega
  · have bm : 0 ≤ M5 a1 (sI k2).toNat ∧ M5 a1 (sI k2).toNat ≤ 63 := BN.at hB5 cd_a1 rfl
    have s6 : sI (M5 a1 (sI k2).toNat) = M5 a1 (sI k2).toNat := sIo (by omega) (by omega)
    have b7 : 0 ≤ M5 75 (sI (M5 a1 (sI k2).toNat)).toNat ∧ M5 75 (sI (M5 a1 (sI k2).toNat)).toNat ≤ 1000000 := BN.at hB5 (rfl : zcd wC 75 = 27) rfl
    have s7 : sI (M5 75 (sI (M5 a1 (sI k2).toNat)).toNat) = M5 75 (sI (M5 a1 (sI k2).toNat)).toNat := sIo (by omega) (by omega)
    refine ⟨by omega, by omega, by omega, ?_⟩
    refine sC_Planner_cost hB5 lt_a0 cd_a0 (by omega) (by omega) (fun z hp => ?_)
    obtain ⟨p1, p2, -⟩ := hp
    refine ⟨by omega, ?_⟩
    intro M6 e6
    refine hK2 _ _ _ ⟨by rw [e6]; exact BN.up hB5 (rfl : zcd wC 75 = 27) rfl (by omega) (by omega), fun j9 h9 => by rw [e6, zup_row _ _ h9]; exact hF5 j9 h9, by omega, by omega, ?_, trivial⟩ (by omega)
    intro s hs
    rw [e6]
    by_cases h : s = (sI (M5 a1 (sI k2).toNat)).toNat
    · rw [h, zup_s]
      rcases Int.le_total (sI (M5 75 (sI (M5 a1 (sI k2).toNat)).toNat)) z with hm | hm
      · rw [Int.min_eq_left hm, s7, ← h]
        exact iC5 s hs
      · rw [Int.min_eq_right hm]
        refine Or.inr ⟨c.toNat, t.toNat, by omega, by omega, ?_, ?_⟩
        · rw [Int.toNat_of_nonneg it.1, ← ik2, ← hF5 a1 n2]
          have s8 : M5 a1 k2.toNat = M5 a1 (sI k2).toNat := by rw [s5]
          omega
        · rw [hcn, Int.toNat_of_nonneg it.1, p2, hF5 a0 n0]
    · rw [zup_n _ _ (fun q => h q.2)]
      exact iC5 s hs
/-- what stands in a row of costs: out of the cheapest and the row behind -/
def ACC (M : zM) (sets : Int) (b0 : Nat) (ch row : Nat → Int) : Prop := ∀ w : Nat, (w : Int) < sets → row w = 1000000 ∨ ∃ g : Nat, (g : Int) < sets ∧ row w = ch g + M b0 (andI w (xorI g (-1))).toNat
set_option maxHeartbeats 4000000 in
theorem sC_Planner_addCosts {M : zM} {a0 a1 : Nat} (hB : BN wC M) (lt_a0 : a0 < nC) (cd_a0 : zcd wC a0 = 26) (lt_a1 : a1 < nC) (cd_a1 : zcd wC a1 = 26) (p0 : a0 ≠ a1) {Q : zM → Prop} (hQ : ∀ M1, (BN wC M1 ∧ (∀ j9 : Nat, ¬ (j9 = a1) → M1 j9 = M j9) ∧ ACC M (shlI 1 (M 60 2)) a0 (M 75) (M1 a1) ∧ True) → Q M1) : wC_Planner_addCosts a0 a1 M Q := by
  unfold wC_Planner_addCosts
  have l0 : zln wC a0 = 64 := zln_of cd_a0 rfl
  have l1 : zln wC a1 = 64 := zln_of cd_a1 rfl
  have n1 : 75 ≠ a1 := by rintro rfl; exact absurd cd_a1 (by decide)
  have b1 : 0 ≤ M 60 2 ∧ M 60 2 ≤ 6 := BN.at hB (rfl : zcd wC 60 = 19) rfl
  have bs := shl1_b (M 60 2) b1.1 b1.2
  obtain ⟨S, eS⟩ : ∃ S, S = shlI 1 (M 60 2) := ⟨_, rfl⟩
  rw [← eS] at hQ bs ⊢
  refine wL1_of (fun x M4 => BN wC M4 ∧ (∀ j9 : Nat, ¬ (j9 = a1) → M4 j9 = M j9) ∧ (0 ≤ x ∧ x ≤ 64) ∧ (∀ w : Nat, (w : Int) < x → M4 a1 w = 1000000 ∨ ∃ g : Nat, (g : Int) < S ∧ M4 a1 w = M 75 g + M a0 (andI w (xorI g (-1))).toNat) ∧ True) (fun x _ => (100 - x).toNat) ⟨hB, fun _ _ => rfl, by omega, fun w h => by omega, trivial⟩ (fun K x M4 hI hK => ?_)
  obtain ⟨hB4, hF4, ix, iA, -⟩ := hI
  have s1 : sI x = x := sIo (by omega) (by omega)
  refine ⟨fun c => hQ _ ⟨hB4, hF4, fun w hw => iA w (by omega), trivial⟩, fun c => ?_⟩
  refine pL2_of (fun y t => (0 ≤ t ∧ t ≤ 64) ∧ (0 ≤ y ∧ y ≤ 1000000) ∧ (y = 1000000 ∨ ∃ g : Nat, (g : Int) < S ∧ y = M 75 g + M a0 (andI x (xorI g (-1))).toNat) ∧ True) (fun _ t => (100 - t).toNat) ⟨by omega, by omega, Or.inl rfl, trivial⟩ (fun K2 y t hI2 hK2 => ?_)
  obtain ⟨it, iy, ig, -⟩ := hI2
  have s2 : sI t = t := sIo (by omega) (by omega)
  have s3 : sI y = y := sIo (by omega) (by omega)
  refine ⟨fun c2 => ⟨by omega, ?_⟩, fun c2 => ?_⟩
  · intro M5 e5
    refine hK _ _ ⟨by rw [e5]; exact BN.up hB4 cd_a1 rfl (by omega) (by omega), fun j9 h9 => by rw [e5, zup_row _ _ h9]; exact hF4 j9 h9, by omega, ?_, trivial⟩ (by omega)
    intro w hw
    rw [e5]
    by_cases h : w = (sI x).toNat
    · have hx : (w : Int) = x := by omega
      rw [h, zup_s, ← h, hx]
      exact ig
    · rw [zup_n _ _ (fun q => h q.2)]
      exact iA w (by omega)
  · have ba := andI_le x (xorI t (-1)) (by omega) (by omega)
    have b7 : 0 ≤ M4 75 (sI t).toNat ∧ M4 75 (sI t).toNat ≤ 1000000 := BN.at hB4 (rfl : zcd wC 75 = 27) rfl
    have b8 : 0 ≤ M4 a0 (andI x (xorI t (-1))).toNat ∧ M4 a0 (andI x (xorI t (-1))).toNat ≤ 1000000 := BN.at hB4 cd_a0 rfl
    have s4 : sI (M4 75 (sI t).toNat + M4 a0 (andI x (xorI t (-1))).toNat) = M4 75 (sI t).toNat + M4 a0 (andI x (xorI t (-1))).toNat := sIo (by omega) (by omega)
    refine ⟨by omega, by omega, ?_⟩
    intro v ev
    refine hK2 _ _ ⟨by omega, by omega, ?_, trivial⟩ (by omega)
    rw [s3, s4] at ev
    rcases Int.le_total y (M4 75 (sI t).toNat + M4 a0 (andI x (xorI t (-1))).toNat) with hm | hm
    · rw [Int.min_eq_left hm] at ev
      rw [ev]
      exact ig
    · rw [Int.min_eq_right hm] at ev
      refine Or.inr ⟨t.toNat, by omega, ?_⟩
      rw [ev, hF4 75 n1, hF4 a0 p0, Int.toNat_of_nonneg it.1, s2]
end zz30_C02
section zz30_C03
/-! safety of the class, 3 -/
/-- the costs from a ring on come out of a cut and a start of it -/
def DPC (M : zM) (i : Nat) : Prop := ∀ w : Nat, (w : Int) < shlI 1 (M 60 2) → M (70 + i) w = 1000000 ∨ ∃ c t : Nat, (c : Int) < M (42 + 4 * i) 1 ∧ (t : Int) < M (42 + 4 * i) 1 - c ∧ M (70 + i) w = 5 * c + absI (t - M (41 + 4 * i) 2) + M (70 + i + 1) (andI w (xorI (M (65 + i) (trI (M (42 + 4 * i) 1) c + t).toNat) (-1))).toNat
theorem DPC.of {M N : zM} {i : Nat} (h : DPC M i) (h1 : N 60 = M 60) (h2 : N (41 + 4 * i) = M (41 + 4 * i)) (h3 : N (42 + 4 * i) = M (42 + 4 * i)) (h4 : N (65 + i) = M (65 + i)) (h5 : N (70 + i) = M (70 + i)) (h6 : N (70 + i + 1) = M (70 + i + 1)) : DPC N i := by
  unfold DPC
  rw [h1, h2, h3, h4, h5, h6]
  exact h
set_option maxHeartbeats 4000000 in
theorem sC_Planner_choose {M : zM} {q1 : Nat} {a1 a2 : Int} (hB : BN wC M) (v1 : 0 ≤ a1 ∧ a1 < 4) (hq : q1 = 41 + 4 * a1.toNat) (v2 : 0 ≤ a2 ∧ a2 < shlI 1 (M 60 2)) (hD : DPC M a1.toNat) (hc : M (70 + a1.toNat) a2.toNat < 1000000) {Q : Int → zM → Prop} (hQ : ∀ z M1, (BN wC M1 ∧ (∀ j9 : Nat, ¬ (j9 = 63) → M1 j9 = M j9) ∧ (0 ≤ z ∧ z < shlI 1 (M 60 2)) ∧ M (70 + a1.toNat + 1) z.toNat < 1000000 ∧ (0 ≤ M1 63 (2 * a1.toNat) ∧ M1 63 (2 * a1.toNat) < M (42 + 4 * a1.toNat) 1) ∧ (0 ≤ M1 63 (2 * a1.toNat + 1) ∧ M1 63 (2 * a1.toNat + 1) < M (42 + 4 * a1.toNat) 1 - M1 63 (2 * a1.toNat)) ∧ (∀ k, k ≠ 2 * a1.toNat → k ≠ 2 * a1.toNat + 1 → M1 63 k = M 63 k)) → Q z M1) : wC_Planner_choose (some q1) a1 a2 M Q := by
  unfold wC_Planner_choose
  refine ⟨(fun h => nomatch h), fun q h => ?_⟩
  obtain rfl := Option.some.inj h
  obtain ⟨i, ei⟩ : ∃ i : Nat, i = a1.toNat := ⟨_, rfl⟩
  rw [← ei] at hq hD hc hQ
  have hi : (i : Int) = a1 := by omega
  have b1 : 0 ≤ M 60 2 ∧ M 60 2 ≤ 6 := BN.at hB (rfl : zcd wC 60 = 19) rfl
  have bs := shl1_b (M 60 2) b1.1 b1.2
  have s1 : sI a1 = a1 := sIo (by omega) (by omega)
  have s2 : sI a2 = a2 := sIo (by omega) (by omega)
  have s3 : sI (a1 + 1) = a1 + 1 := sIo (by omega) (by omega)
  have s4 : sI (2 * a1) = 2 * a1 := sIo (by omega) (by omega)
  have s5 : sI (2 * a1 + 1) = 2 * a1 + 1 := sIo (by omega) (by omega)
  have e1 : (sI a1).toNat = i := by omega
  have e2 : (sI (a1 + 1)).toNat = i + 1 := by omega
  have e4 : (sI (2 * a1)).toNat = 2 * i := by omega
  have e5 : (sI (2 * a1 + 1)).toNat = 2 * i + 1 := by omega
  have e6 : (sI a2).toNat = a2.toNat := by rw [s2]
  have eq1 : q1 + 1 = 42 + 4 * i := by omega
  have ltq : q1 < nC ∧ zcd wC q1 = 14 := by rw [hq]; exact (by decide : ∀ k : Nat, k < 4 → 41 + 4 * k < nC ∧ zcd wC (41 + 4 * k) = 14) i (by omega)
  have cd1 : zcd wC (42 + 4 * i) = 6 := (by decide : ∀ k : Nat, k < 4 → zcd wC (42 + 4 * k) = 6) i (by omega)
  have cd5 : zcd wC (65 + i) = 24 := (by decide : ∀ k : Nat, k < 4 → zcd wC (65 + k) = 24) i (by omega)
  have cd0 : zcd wC (70 + i) = 26 := (by decide : ∀ k : Nat, k < 5 → zcd wC (70 + k) = 26) i (by omega)
  have cd2 : zcd wC (70 + i + 1) = 26 := (by decide : ∀ k : Nat, k < 4 → zcd wC (70 + k + 1) = 26) i (by omega)
  rw [e1, e2, e4, e5, e6, Nat.one_mul, Nat.one_mul, eq1, show 70 + (i + 1) = 70 + i + 1 from rfl]
  obtain ⟨L, eL⟩ : ∃ L, L = M (42 + 4 * i) 1 := ⟨_, rfl⟩
  have bL : 0 ≤ L ∧ L ≤ 24 := by rw [eL]; exact BN.at hB cd1 rfl
  have sL1 : sI L = L := sIo (by omega) (by omega)
  rcases hD a2.toNat (by omega) with h0 | ⟨cs, ts, h1, h2, h3⟩
  · omega
  rw [← eL] at h1 h2 h3 hQ ⊢
  rw [Int.toNat_of_nonneg v2.1] at h3
  refine pL2_of (fun k c => (0 ≤ c ∧ c ≤ cs) ∧ k = trI L c.toNat ∧ True) (fun _ c => (100 - c).toNat) ⟨by omega, rfl, trivial⟩ (fun K k c hI hK => ?_)
  obtain ⟨ic, ik, -⟩ := hI
  have s6 : sI c = c := sIo (by omega) (by omega)
  rw [sL1, s6]
  refine ⟨fun c1 => absurd c1 (by omega), fun c1 => ?_⟩
  have tb := trI_le bL.1 bL.2 (c := c.toNat) (by omega)
  have hcn : (c.toNat : Int) = c := Int.toNat_of_nonneg ic.1
  have s7 : sI (L - c) = L - c := sIo (by omega) (by omega)
  refine pL2_of (fun k2 t => (0 ≤ t ∧ t ≤ L - c) ∧ k2 = trI L c.toNat + t ∧ (c < cs ∨ (c = cs ∧ t ≤ ts)) ∧ True) (fun _ t => (100 - t).toNat) ⟨by omega, by omega, by omega, trivial⟩ (fun K2 k2 t hI2 hK2 => ?_)
  obtain ⟨it, ik2, io, -⟩ := hI2
  have s8 : sI t = t := sIo (by omega) (by omega)
  have s9 : sI k2 = k2 := sIo (by omega) (by omega)
  rw [s7, s8]
  refine ⟨fun c2 => hK _ _ ⟨by omega, ?_, trivial⟩ (by omega), fun c2 => ⟨fun c3 => absurd c3 (by omega), fun c3 => ?_⟩⟩
  · rw [trI_s L c ic.1]
    omega
  · refine ⟨by omega, by omega, ?_⟩
    intro r er
    have br := andI_le a2 (xorI (M (65 + i) (sI k2).toNat) (-1)) (by omega) (by omega)
    refine sC_Planner_cost hB ltq.1 ltq.2 (by omega) (by omega) (fun z hp => ?_)
    obtain ⟨p1, p2, -⟩ := hp
    have b2 : 0 ≤ M (70 + i + 1) r.toNat ∧ M (70 + i + 1) r.toNat ≤ 1000000 := BN.at hB cd2 rfl
    have b3 : 0 ≤ M (70 + i) a2.toNat ∧ M (70 + i) a2.toNat ≤ 1000000 := BN.at hB cd0 rfl
    have sA : sI (z + M (70 + i + 1) r.toNat) = z + M (70 + i + 1) r.toNat := sIo (by omega) (by omega)
    have sB : sI (M (70 + i) a2.toNat) = M (70 + i) a2.toNat := sIo (by omega) (by omega)
    refine ⟨by omega, by omega, by omega, by omega, fun c4 => ?_, fun c4 => ?_⟩
    · refine hK2 _ _ ⟨by omega, by omega, ?_, trivial⟩ (by omega)
      rcases io with h | ⟨h, h'⟩
      · exact Or.inl h
      · refine Or.inr ⟨h, ?_⟩
        by_cases hts : t = ts
        · exfalso
          apply c4
          rw [sA, sB, h3, p2, er, s9, ik2, h, hts, hq, Int.toNat_natCast]
        · omega
    · refine ⟨by omega, ?_⟩
      intro M5 e5
      refine ⟨by omega, ?_⟩
      intro M6 e6
      have hB5 : BN wC M5 := by rw [e5]; exact BN.up hB (rfl : zcd wC 63 = 22) rfl (by omega) (by omega)
      have hB6 : BN wC M6 := by rw [e6]; exact BN.up hB5 (rfl : zcd wC 63 = 22) rfl (by omega) (by omega)
      have r1 : M6 63 (2 * i) = c := by rw [e6, zup_n _ _ (by omega), e5, zup_s]
      have r2 : M6 63 (2 * i + 1) = t := by rw [e6, zup_s]
      refine hQ _ _ ⟨hB6, fun j9 h9 => by rw [e6, zup_row _ _ h9, e5, zup_row _ _ h9], by omega, by omega, by omega, by omega, fun k h9 h8 => ?_⟩
      rw [e6, zup_n _ _ (by omega), e5, zup_n _ _ (by omega)]
/-- a plan that can be carried out -/
def PVC (M N : zM) : Prop := ∀ k : Nat, k < 4 → (k : Int) < M 32 2 → (0 ≤ N 63 (2 * k) ∧ N 63 (2 * k) < M (42 + 4 * k) 1) ∧ (0 ≤ N 63 (2 * k + 1) ∧ N 63 (2 * k + 1) < M (42 + 4 * k) 1 - N 63 (2 * k))
set_option maxHeartbeats 8000000 in
theorem sC_Planner_find {M : zM} (hB : BN wC M) {Q : Int → zM → Prop} (hQ : ∀ z M1, (BN wC M1 ∧ (∀ j9 : Nat, ¬ (63 ≤ j9 ∧ j9 ≤ 77) → M1 j9 = M j9) ∧ (-1 ≤ z ∧ z ≤ 1000000) ∧ (z = -1 ∨ PVC M M1) ∧ True) → Q z M1) : wC_Planner_find M Q := by
  unfold wC_Planner_find
  have b1 : 0 ≤ M 32 2 ∧ M 32 2 ≤ 4 := BN.at hB (rfl : zcd wC 32 = 8) rfl
  have s1 : sI (M 32 2) = M 32 2 := sIo (by omega) (by omega)
  have b2 : 0 ≤ M 60 2 ∧ M 60 2 ≤ 6 := BN.at hB (rfl : zcd wC 60 = 19) rfl
  have bs := shl1_b (M 60 2) b2.1 b2.2
  obtain ⟨n, en⟩ : ∃ n : Nat, n = (M 32 2).toNat := ⟨_, rfl⟩
  have hn : (n : Int) = M 32 2 := by omega
  have e1 : (sI (M 32 2)).toNat = n := by rw [s1]; omega
  rw [e1, Nat.one_mul]
  have hnC : nC = 134 := rfl
  have cdn : zcd wC (70 + n) = 26 := (by decide : ∀ k : Nat, k < 5 → zcd wC (70 + k) = 26) n (by omega)
  refine ⟨by omega, ?_⟩
  refine sC_fill hB (by omega) cdn (by omega) (fun _ => rfl) (by omega) (by omega) (fun M4 hp => ?_)
  obtain ⟨hB4, hF4, -, -⟩ := hp
  refine ⟨by omega, ?_⟩
  intro M8 e8
  have hB8 : BN wC M8 := by rw [e8]; exact BN.up hB4 cdn rfl (by omega) (by omega)
  have hF8 : ∀ j9 : Nat, ¬ (63 ≤ j9 ∧ j9 ≤ 77) → M8 j9 = M j9 := fun j9 h9 => by rw [e8, zup_row _ _ (by omega)]; exact hF4 j9 (by omega)
  refine wL1_of (fun x N => BN wC N ∧ (∀ j9 : Nat, ¬ (63 ≤ j9 ∧ j9 ≤ 77) → N j9 = M j9) ∧ (-1 ≤ x ∧ x ≤ 3) ∧ (∀ k : Nat, k < 4 → x < k → (k : Int) < M 32 2 → DPC N k) ∧ True) (fun x _ => (x + 1).toNat) ⟨hB8, hF8, by omega, fun k _ _ _ => by omega, trivial⟩ (fun K x N hI hK => ?_)
  obtain ⟨hBN, hFN, ix, iD, -⟩ := hI
  have s2 : sI x = x := sIo (by omega) (by omega)
  have r60 : N 60 = M 60 := hFN 60 (by omega)
  have r32 : N 32 = M 32 := hFN 32 (by omega)
  rw [s2, r60]
  refine ⟨fun c => ?_, fun c => ?_⟩
  · have s3 : sI (shlI 1 (M 60 2) - 1) = shlI 1 (M 60 2) - 1 := sIo (by omega) (by omega)
    rw [s3]
    refine ⟨by omega, ?_⟩
    intro sm esm
    have bsm : 0 ≤ sm ∧ sm ≤ 1000000 := by rw [esm]; exact BN.at hBN (rfl : zcd wC 70 = 26) rfl
    have s4 : sI sm = sm := sIo (by omega) (by omega)
    rw [s4]
    refine ⟨fun c2 => ?_, fun c2 => hQ _ _ ⟨hBN, hFN, by omega, Or.inl rfl, trivial⟩⟩
    refine wL2_of (fun w y P => BN wC P ∧ (∀ j9 : Nat, ¬ (j9 = 63) → P j9 = N j9) ∧ (0 ≤ y ∧ y ≤ M 32 2) ∧ (0 ≤ w ∧ w < shlI 1 (M 60 2)) ∧ N (70 + y.toNat) w.toNat < 1000000 ∧ (∀ k : Nat, (k : Int) < y → (0 ≤ P 63 (2 * k) ∧ P 63 (2 * k) < M (42 + 4 * k) 1) ∧ (0 ≤ P 63 (2 * k + 1) ∧ P 63 (2 * k + 1) < M (42 + 4 * k) 1 - P 63 (2 * k))) ∧ True) (fun _ y _ => (100 - y).toNat) ⟨hBN, fun _ _ => rfl, by omega, by omega, by rw [show (70 + (0 : Int).toNat) = 70 from rfl, ← esm]; exact c2, fun k h => by omega, trivial⟩ (fun K2 w y P hI2 hK2 => ?_)
    obtain ⟨hBP, hFP, iy, iw, iv, ip, -⟩ := hI2
    have s5 : sI y = y := sIo (by omega) (by omega)
    rw [s1, s5]
    have p32 : P 32 = M 32 := (hFP 32 (by omega)).trans r32
    refine ⟨fun c3 => hQ _ _ ⟨hBP, fun j9 h9 => (hFP j9 (by omega)).trans (hFN j9 h9), by omega, Or.inr (fun k hk hk2 => ip k (by omega)), trivial⟩, fun c3 => ?_⟩
    refine sC_Studio_find hBP (by omega) (fun hnn => ?_) (fun q hp => ?_)
    · rw [p32] at hnn
      omega
    · obtain ⟨⟨ltq, cdq⟩, eq, -, -, hy4⟩ := hp
      refine ⟨(fun h9 => nomatch h9), fun q9 h9 => ?_⟩
      obtain rfl := Option.some.inj h9
      refine ⟨⟨ltq, cdq⟩, ?_⟩
      have p60 : P 60 = M 60 := (hFP 60 (by omega)).trans r60
      have hDy : DPC P y.toNat := (iD y.toNat (by omega) (by omega) (by omega)).of (hFP 60 (by omega)) (hFP _ (by omega)) (hFP _ (by omega)) (hFP _ (by omega)) (hFP _ (by omega)) (hFP _ (by omega))
      have hl : P (42 + 4 * y.toNat) = M (42 + 4 * y.toNat) := (hFP _ (by omega)).trans (hFN _ (by omega))
      refine sC_Planner_choose hBP (by omega) eq (by rw [p60]; exact iw) hDy (by rw [hFP (70 + y.toNat) (by omega)]; exact iv) (fun z M1 hp => ?_)
      obtain ⟨hB1, hF1, q1, q2, q3, q4, q5⟩ := hp
      rw [p60] at q1
      rw [hl] at q3 q4
      rw [hFP (70 + y.toNat + 1) (by omega)] at q2
      refine hK2 _ _ _ ⟨hB1, fun j9 h9 => (hF1 j9 h9).trans (hFP j9 h9), by omega, q1, ?_, ?_, trivial⟩ (by omega)
      · rw [show (y + 1).toNat = y.toNat + 1 by omega]
        exact q2
      · intro k hk
        by_cases hky : k = y.toNat
        · subst hky
          exact ⟨q3, q4⟩
        · rw [q5 (2 * k) (by omega) (by omega), q5 (2 * k + 1) (by omega) (by omega)]
          exact ip k (by omega)
  · refine sC_Studio_find hBN (by omega) (fun hnn => ?_) (fun q hp => ?_)
    · refine ⟨fun _ => ?_, fun q9 h9 => nomatch h9⟩
      rw [r32] at hnn
      exact hK _ _ ⟨hBN, hFN, by omega, fun k h1 h2 h3 => iD k h1 (by omega) h3, trivial⟩ (by omega)
    · obtain ⟨⟨ltq, cdq⟩, eq, -, hxc, hx4⟩ := hp
      refine ⟨(fun h9 => nomatch h9), fun q9 h9 => ?_⟩
      obtain rfl := Option.some.inj h9
      refine ⟨⟨ltq, cdq⟩, ?_⟩
      have bm : 0 ≤ N q 1 ∧ N q 1 ≤ 1 := BN.at hBN cdq rfl
      refine sC_Studio_motorOf hBN (by omega) (fun qm hp => ?_)
      obtain ⟨⟨ltm, cdm⟩, -⟩ := hp
      refine ⟨qm, rfl, ⟨ltm, cdm⟩, ?_⟩
      obtain ⟨i, ei⟩ : ∃ i : Nat, i = x.toNat := ⟨_, rfl⟩
      have hi : (i : Int) = x := by omega
      have s6 : sI (x + 1) = x + 1 := sIo (by omega) (by omega)
      have e6 : (sI (x + 1)).toNat = i + 1 := by omega
      have eq2 : q = 41 + 4 * i := by omega
      have c65 : 65 + i < nC ∧ zcd wC (65 + i) = 24 := (by decide : ∀ k : Nat, k < 4 → 65 + k < nC ∧ zcd wC (65 + k) = 24) i (by omega)
      have c70 : 70 + i < nC ∧ zcd wC (70 + i) = 26 := (by decide : ∀ k : Nat, k < 4 → 70 + k < nC ∧ zcd wC (70 + k) = 26) i (by omega)
      have c71 : 70 + i + 1 < nC ∧ zcd wC (70 + i + 1) = 26 := (by decide : ∀ k : Nat, k < 4 → 70 + k + 1 < nC ∧ zcd wC (70 + k + 1) = 26) i (by omega)
      rw [← ei, e6, Nat.one_mul, Nat.one_mul, show 70 + (i + 1) = 70 + i + 1 from rfl]
      refine ⟨by omega, ?_⟩
      refine sC_Planner_listTrue hBN ltq cdq ltm cdm c65.1 c65.2 (fun A hp => ?_)
      obtain ⟨hBA, hFA, -⟩ := hp
      refine ⟨by omega, ?_⟩
      refine sC_Planner_listCheapest hBA ltq cdq c65.1 c65.2 (fun B hp => ?_)
      obtain ⟨hBB, hFB, hC, -⟩ := hp
      refine ⟨by omega, by omega, ?_⟩
      refine sC_Planner_addCosts hBB c71.1 c71.2 c70.1 c70.2 (by omega) (fun D hp => ?_)
      obtain ⟨hBD, hFD, hA, -⟩ := hp
      have fr : ∀ j9 : Nat, ¬ (j9 = 65 + i ∨ j9 = 75 ∨ j9 = 76 ∨ j9 = 77 ∨ j9 = 70 + i) → D j9 = N j9 := fun j9 h9 => (hFD j9 (by omega)).trans ((hFB j9 (by omega)).trans (hFA j9 (by omega)))
      refine hK _ _ ⟨hBD, fun j9 h9 => (fr j9 (by omega)).trans (hFN j9 h9), by omega, ?_, trivial⟩ (by omega)
      intro k h1 h2 h3
      by_cases hki : k = i
      · subst hki
        intro v hv
        have d60 : D 60 = N 60 := fr 60 (by omega)
        have b60 : B 60 = N 60 := (hFB 60 (by omega)).trans (hFA 60 (by omega))
        rw [d60] at hv
        rw [b60] at hA
        have bD : 0 ≤ D (70 + k) v ∧ D (70 + k) v ≤ 1000000 := BN.at hBD c70.2 rfl
        rcases hA v hv with h | ⟨g, hg, eg⟩
        · exact Or.inl h
        · have bB : 0 ≤ B (70 + k + 1) (andI v (xorI g (-1))).toNat ∧ B (70 + k + 1) (andI v (xorI g (-1))).toNat ≤ 1000000 := BN.at hBB c71.2 rfl
          rw [r60] at hg
          rcases hC g (by omega) with h | ⟨cc, tt, hc1, hc2, hc3, hc4⟩
          · left
            omega
          · right
            have lA : A (q + 1) = N (q + 1) := hFA _ (by omega)
            have lA2 : A q = N q := hFA _ (by omega)
            have d1 : D (42 + 4 * k) = A (q + 1) := by rw [lA, show q + 1 = 42 + 4 * k by omega]; exact fr _ (by omega)
            have d2 : D (41 + 4 * k) = A q := by rw [lA2, eq2]; exact fr _ (by omega)
            have d3 : D (65 + k) = A (65 + k) := (hFD _ (by omega)).trans (hFB _ (by omega))
            have d4 : D (70 + k + 1) = B (70 + k + 1) := hFD _ (by omega)
            refine ⟨cc, tt, by rw [d1]; exact hc1, by rw [d1]; exact hc2, ?_⟩
            rw [d1, d2, d3, d4, hc3, eg, hc4]
      · have hD0 := iD k h1 (by omega) h3
        exact hD0.of (fr _ (by omega)) (fr _ (by omega)) (fr _ (by omega)) (fr _ (by omega)) (fr _ (by omega)) (fr _ (by omega))
theorem sC_tell {M : zM} {a0 : Nat} {a1 : Int} (hB : BN wC M) (lt_a0 : a0 < nC) {q : Nat} (cd_a0 : zcd wC a0 = q) (v1 : 0 ≤ a1 ∧ a1 ≤ 41) (p0 : a0 ≠ 133) {Q : zM → Prop} (hQ : ∀ M1, (BN wC M1 ∧ (∀ j9 : Nat, ¬ (j9 = 0 ∨ j9 = 133) → M1 j9 = M j9) ∧ True) → Q M1) : wC_tell a0 a1 M Q := by
  unfold wC_tell
  have s1 : sI a1 = a1 := sIo (by omega) (by omega)
  intro M1 e1
  have r1 : M1 0 10 = min (sI a1) (min ((zln wC a0) : Int) 40) := by rw [e1]; exact zup_s _ _ _ _
  have s2 : sI (M1 0 10) = M1 0 10 := sIo (by omega) (by omega)
  have hB1 : BN wC M1 := by rw [e1]; exact BN.up hB (rfl : zcd wC 0 = 0) rfl (by omega) (by omega)
  refine ⟨p0, by omega, by omega, by omega, ?_⟩
  intro M7 e7
  refine hQ _ ⟨?_, fun j9 h9 => ?_, trivial⟩
  · rw [e7]
    exact BN.cp hB1 (rfl : zcd wC 133 = 49) (fun _ => rfl) (fun k => BN.r32 hB1 _ k)
  · rw [e7, zcp_row (by omega), e1, zup_row _ _ (by omega)]
theorem sC_plan {M : zM} (hB : BN wC M) {Q : Int → zM → Prop} (hQ : ∀ z M1, (BN wC M1 ∧ (∀ j9 : Nat, ¬ (63 ≤ j9 ∧ j9 ≤ 77 ∨ j9 = 0 ∨ j9 = 133) → M1 j9 = M j9) ∧ True) → Q z M1) : wC_plan M Q := by
  unfold wC_plan
  refine sC_Planner_find hB (fun z M1 hp => ?_)
  obtain ⟨hB1, hF1, p1, -, -⟩ := hp
  refine ⟨fun c => hQ _ _ ⟨hB1, fun j9 h9 => hF1 j9 (by omega), trivial⟩, fun c => ?_⟩
  have b1 : 0 ≤ M1 32 2 ∧ M1 32 2 ≤ 4 := BN.at hB1 (rfl : zcd wC 32 = 8) rfl
  refine sC_tell hB1 (by decide) (rfl : zcd wC 63 = 22) (by omega) (by decide) (fun M5 hp => ?_)
  obtain ⟨hB5, hF5, -⟩ := hp
  exact hQ _ _ ⟨hB5, fun j9 h9 => (hF5 j9 (by omega)).trans (hF1 j9 (by omega)), trivial⟩
set_option maxHeartbeats 4000000 in
set_option maxRecDepth 100000 in
theorem sC_Ring_cutBy {M : zM} {j : Nat} {a0 : Int} (hB : BN wC M) (lt_j : j < nC) (cd_j : zcd wC j = 14) (v0 : 0 ≤ a0 ∧ a0 ≤ 24) (p0 : a0 ≤ M (j + 1) 1) {Q : zM → Prop} (hQ : ∀ (M1 : zM), BN wC M1 ∧ (∀ j9 : Nat, ¬ (j ≤ j9 ∧ j9 ≤ j + 3) → M1 j9 = M j9) ∧ True → Q M1) : wC_Ring_cutBy j a0 M Q := by
  unfold wC_Ring_cutBy
  have hF0 : ∀ j9 : Nat, ¬ (j ≤ j9 ∧ j9 ≤ j + 3) → M j9 = M j9 := fun j9 _ => rfl
  obtain ⟨lt1, cd2, lt3, cd4, lt5, cd6⟩ := nx_ring j lt_j cd_j
  have q7 : 0 ≤ (M (j + 1) 1) ∧ (M (j + 1) 1) ≤ 24 := BN.at hB cd2 rfl
  intro M8 e9
  have hB10 : BN wC M8 := by rw [e9]; exact BN.up hB cd2 rfl (by omega) (by omega)
  have hF11 : ∀ j9 : Nat, ¬ (j ≤ j9 ∧ j9 ≤ j + 3) → M8 j9 = M j9 := fun j9 h9 => by rw [e9]; exact (zup_row _ _ (by omega)).trans (hF0 j9 h9)
  have q12 : 0 ≤ (M8 j 2) ∧ (M8 j 2) ≤ 23 := BN.at hB10 cd_j rfl
  have s13 : sI (M8 j 2) = (M8 j 2) := sIo (by omega) (by omega)
  have q14 : 0 ≤ (M8 (j + 1) 1) ∧ (M8 (j + 1) 1) ≤ 24 := BN.at hB10 cd2 rfl
  refine sC_by hB10 (by omega) (fun z15  h16 => ?_)
  obtain ⟨p17, p18, p19, -⟩ := h16
  intro M20 e21
  have hB22 : BN wC M20 := by rw [e21]; exact BN.up hB10 cd_j rfl (by omega) (by omega)
  have hF23 : ∀ j9 : Nat, ¬ (j ≤ j9 ∧ j9 ≤ j + 3) → M20 j9 = M j9 := fun j9 h9 => by rw [e21]; exact (zup_row _ _ (by omega)).trans (hF11 j9 h9)
  refine sC_Ring_listen hB22 lt_j cd_j (fun  M24 h25 => ?_)
  obtain ⟨hB26, f27, -⟩ := h25
  have hF28 : ∀ j9 : Nat, ¬ (j ≤ j9 ∧ j9 ≤ j + 3) → M24 j9 = M j9 := fun j9 h9 => ((f27 j9 (by omega)).trans (hF23 j9 h9))
  exact hQ _ ⟨hB26, hF28, trivial⟩
set_option maxHeartbeats 4000000 in
theorem sC_Planner_carryOut {M : zM} (hB : BN wC M) (p0 : PVC M M) {Q : zM → Prop} (hQ : ∀ M1, (BN wC M1 ∧ (∀ j9 : Nat, ¬ (41 ≤ j9 ∧ j9 ≤ 56) → M1 j9 = M j9) ∧ True) → Q M1) : wC_Planner_carryOut M Q := by
  unfold wC_Planner_carryOut
  refine wL1_of (fun x N => BN wC N ∧ (∀ j9 : Nat, ¬ (41 ≤ j9 ∧ (j9 : Int) < 41 + 4 * x) → N j9 = M j9) ∧ (0 ≤ x ∧ x ≤ 4) ∧ True) (fun x _ => (100 - x).toNat) ⟨hB, fun _ _ => rfl, by omega, trivial⟩ (fun K x N hI hK => ?_)
  obtain ⟨hBN, hFN, ix, -⟩ := hI
  have s1 : sI x = x := sIo (by omega) (by omega)
  have s2 : sI (2 * x) = 2 * x := sIo (by omega) (by omega)
  have s3 : sI (2 * x + 1) = 2 * x + 1 := sIo (by omega) (by omega)
  have r32 : N 32 = M 32 := hFN 32 (by omega)
  refine ⟨fun c => hQ _ ⟨hBN, fun j9 h9 => hFN j9 (by omega), trivial⟩, fun c => ?_⟩
  refine sC_Studio_find hBN (by omega) (fun hnn => ?_) (fun q hp => ?_)
  · exact ⟨fun _ => hK _ _ ⟨hBN, fun j9 h9 => hFN j9 (by omega), by omega, trivial⟩ (by omega), fun q9 h9 => nomatch h9⟩
  · obtain ⟨⟨ltq, cdq⟩, eq, -, hxc, hx4⟩ := hp
    refine ⟨(fun h9 => nomatch h9), fun q9 h9 => ?_⟩
    obtain rfl := Option.some.inj h9
    refine ⟨⟨ltq, cdq⟩, by omega, ?_⟩
    obtain ⟨i, ei⟩ : ∃ i : Nat, i = x.toNat := ⟨_, rfl⟩
    rw [r32] at hxc
    have pv := p0 i (by omega) (by omega)
    have e2 : (sI (2 * x)).toNat = 2 * i := by omega
    have e3 : (sI (2 * x + 1)).toNat = 2 * i + 1 := by omega
    have r63 : N 63 = M 63 := hFN 63 (by omega)
    have rl : N (q + 1) = M (42 + 4 * i) := by rw [show q + 1 = 42 + 4 * i by omega]; exact hFN _ (by omega)
    have bl : 0 ≤ M (42 + 4 * i) 1 ∧ M (42 + 4 * i) 1 ≤ 24 := BN.at hB ((by decide : ∀ k : Nat, k < 4 → zcd wC (42 + 4 * k) = 6) i (by omega)) rfl
    rw [e2, e3, r63]
    refine sC_Ring_cutBy hBN ltq cdq (by omega) (by rw [rl]; omega) (fun A hp => ?_)
    obtain ⟨hBA, hFA, -⟩ := hp
    have a63 : A 63 = M 63 := (hFA 63 (by omega)).trans r63
    refine ⟨by omega, ?_⟩
    intro B e
    rw [a63] at e
    exact hK _ _ ⟨by rw [e]; exact BN.up hBA cdq rfl (by omega) (by omega), fun j9 h9 => by rw [e, zup_row _ _ (by omega)]; exact (hFA j9 (by omega)).trans (hFN j9 (by omega)), by omega, trivial⟩ (by omega)
theorem sC_make {M : zM} (hB : BN wC M) {Q : Int → zM → Prop} (hQ : ∀ z M1, (BN wC M1 ∧ (∀ j9 : Nat, ¬ (63 ≤ j9 ∧ j9 ≤ 77 ∨ 41 ≤ j9 ∧ j9 ≤ 56) → M1 j9 = M j9) ∧ True) → Q z M1) : wC_make M Q := by
  unfold wC_make
  refine sC_Planner_find hB (fun z M1 hp => ?_)
  obtain ⟨hB1, hF1, p1, p2, -⟩ := hp
  refine ⟨fun c => hQ _ _ ⟨hB1, fun j9 h9 => hF1 j9 (by omega), trivial⟩, fun c => ?_⟩
  refine sC_Planner_carryOut hB1 ?_ (fun M5 hp => ?_)
  · rcases p2 with h | h
    · exact absurd h c
    · intro k hk hk2
      rw [hF1 32 (by omega)] at hk2
      rw [hF1 (42 + 4 * k) (by omega)]
      exact h k hk hk2
  · obtain ⟨hB5, hF5, -⟩ := hp
    exact hQ _ _ ⟨hB5, fun j9 h9 => (hF5 j9 (by omega)).trans (hF1 j9 (by omega)), trivial⟩
set_option maxHeartbeats 4000000 in
set_option maxRecDepth 100000 in
theorem sC_cut {M : zM} {a0 : Int} {a1 : Int} (hB : BN wC M) (v0 : (-2147483648) ≤ a0 ∧ a0 ≤ 2147483647) (v1 : (-2147483648) ≤ a1 ∧ a1 ≤ 2147483647) {Q : Int → zM → Prop} (hQ : ∀ (z : Int) (M1 : zM), BN wC M1 ∧ (∀ j9 : Nat, ¬ (32 ≤ j9 ∧ j9 ≤ 34 ∨ 41 ≤ j9 ∧ j9 ≤ 56) → M1 j9 = M j9) ∧ ((-2147483648) ≤ z ∧ z ≤ 2147483647) ∧ True → Q z M1) : wC_cut a0 a1 M Q := by
  unfold wC_cut
  have hF0 : ∀ j9 : Nat, ¬ (32 ≤ j9 ∧ j9 ≤ 34 ∨ 41 ≤ j9 ∧ j9 ≤ 56) → M j9 = M j9 := fun j9 _ => rfl
  refine sC_Studio_find hB (by omega) (fun h2 => ?_) (fun q1 h2 => ?_)
  · skip
    refine ⟨fun _ => ?_, fun q9 h9 => nomatch h9⟩
    exact hQ _ _ ⟨hB, hF0, (by omega), trivial⟩
  · skip
    refine ⟨(fun h9 => nomatch h9), fun q9 h9 => ?_⟩
    obtain rfl := Option.some.inj h9
    obtain ⟨⟨lt3, cd4⟩, h2⟩ := h2
    refine ⟨⟨lt3, cd4⟩, ?_⟩
    obtain ⟨lt5, cd6, lt7, cd8, lt9, cd10⟩ := nx_ring q1 lt3 cd4
    refine sC_Strip_has hB lt5 cd6 (by omega) (fun z11  h12 => ?_)
    obtain ⟨p13, p14, -⟩ := h12
    refine ⟨fun c15 => ?_, fun c15 => ?_⟩
    · skip
      refine sC_Ring_cutBy hB lt3 cd4 (by omega) (by omega) (fun  M16 h17 => ?_)
      obtain ⟨hB18, f19, -⟩ := h17
      have hF20 : ∀ j9 : Nat, ¬ (32 ≤ j9 ∧ j9 ≤ 34 ∨ 41 ≤ j9 ∧ j9 ≤ 56) → M16 j9 = M j9 := fun j9 h9 => ((f19 j9 (by omega)).trans (hF0 j9 h9))
      have q21 : 0 ≤ (M16 (q1 + 1) 1) ∧ (M16 (q1 + 1) 1) ≤ 24 := BN.at hB18 cd6 rfl
      have s22 : sI (M16 (q1 + 1) 1) = (M16 (q1 + 1) 1) := sIo (by omega) (by omega)
      exact hQ _ _ ⟨hB18, hF20, (by omega), trivial⟩
    · skip
      exact hQ _ _ ⟨hB, hF0, (by omega), trivial⟩
set_option maxHeartbeats 4000000 in
set_option maxRecDepth 100000 in
theorem sC_Echo_weigh {M : zM} {a0 : Int} {a1 : Int} (hB : BN wC M) (v0 : 1 ≤ a0 ∧ a0 ≤ 9) (v1 : 0 ≤ a1 ∧ a1 ≤ 200) {Q : Int → zM → Prop} (hQ : ∀ (z : Int) (M1 : zM), BN wC M1 ∧ (∀ j9 : Nat, ¬ (j9 = 80) → M1 j9 = M j9) ∧ ((-2147483648) ≤ z ∧ z ≤ 2147483647) ∧ True → Q z M1) : wC_Echo_weigh a0 a1 M Q := by
  unfold wC_Echo_weigh
  have hF0 : ∀ j9 : Nat, ¬ (j9 = 80) → M j9 = M j9 := fun j9 _ => rfl
  have s1 : sI a0 = a0 := sIo (by omega) (by omega)
  have o2 : 0 ≤ (sI a0) ∧ (sI a0) < 10 := by omega
  refine ⟨o2, ?_⟩
  have q3 : (-2147483648) ≤ (M 80 (sI a0).toNat) ∧ (M 80 (sI a0).toNat) ≤ 2147483647 := BN.at hB (rfl : zcd wC 80 = 32) rfl
  have o4 : 0 ≤ (sI a0) ∧ (sI a0) < 10 := by omega
  refine ⟨o4, ?_⟩
  intro M5 e6
  have hB7 : BN wC M5 := by rw [e6]; exact BN.up hB (rfl : zcd wC 80 = 32) rfl (by omega) (by omega)
  have hF8 : ∀ j9 : Nat, ¬ (j9 = 80) → M5 j9 = M j9 := fun j9 h9 => by rw [e6]; exact (zup_row _ _ (by omega)).trans (hF0 j9 h9)
  have s9 : sI (M 80 (sI a0).toNat) = (M 80 (sI a0).toNat) := sIo (by omega) (by omega)
  exact hQ _ _ ⟨hB7, hF8, (by omega), trivial⟩
set_option maxHeartbeats 4000000 in
set_option maxRecDepth 100000 in
theorem sC_weight {M : zM} {a0 : Int} {a1 : Int} (hB : BN wC M) (v0 : (-2147483648) ≤ a0 ∧ a0 ≤ 2147483647) (v1 : (-2147483648) ≤ a1 ∧ a1 ≤ 2147483647) {Q : Int → zM → Prop} (hQ : ∀ (z : Int) (M1 : zM), BN wC M1 ∧ (∀ j9 : Nat, ¬ (j9 = 80) → M1 j9 = M j9) ∧ ((-2147483648) ≤ z ∧ z ≤ 2147483647) ∧ True → Q z M1) : wC_weight a0 a1 M Q := by
  unfold wC_weight
  have hF0 : ∀ j9 : Nat, ¬ (j9 = 80) → M j9 = M j9 := fun j9 _ => rfl
  refine sC_isSound hB (by omega) (fun z1  h2 => ?_)
  obtain ⟨p3, p4, -⟩ := h2
  refine ⟨fun c5 => ?_, fun c5 => ?_⟩
  · skip
    exact hQ _ _ ⟨hB, hF0, (by omega), trivial⟩
  · skip
    refine sC_within hB (by omega) (by omega) (by omega) (fun z6  h7 => ?_)
    obtain ⟨p8, p9, -⟩ := h7
    refine ⟨fun c10 => ?_, fun c10 => ?_⟩
    · skip
      refine sC_Echo_weigh hB (by omega) (by omega) (fun z11 M12 h13 => ?_)
      obtain ⟨hB14, f15, p16, -⟩ := h13
      have hF17 : ∀ j9 : Nat, ¬ (j9 = 80) → M12 j9 = M j9 := fun j9 h9 => ((f15 j9 (by omega)).trans (hF0 j9 h9))
      exact hQ _ _ ⟨hB14, hF17, (by omega), trivial⟩
    · skip
      exact hQ _ _ ⟨hB, hF0, (by omega), trivial⟩
set_option maxHeartbeats 4000000 in
set_option maxRecDepth 100000 in
theorem sC_Echo_place {M : zM} {a0 : Int} {a1 : Int} {a2 : Int} {a3 : Int} (hB : BN wC M) (v0 : 0 ≤ a0 ∧ a0 ≤ 20) (v1 : 0 ≤ a1 ∧ a1 ≤ 100) (v2 : 0 ≤ a2 ∧ a2 ≤ 20) (v3 : 0 ≤ a3 ∧ a3 ≤ 100) {Q : zM → Prop} (hQ : ∀ (M1 : zM), BN wC M1 ∧ (∀ j9 : Nat, ¬ (j9 = 78) → M1 j9 = M j9) ∧ (M1 78 0 = M 78 0) ∧ (M1 78 3 = a0) ∧ (M1 78 4 = a1) ∧ (M1 78 5 = a2) ∧ (M1 78 6 = a3) ∧ True → Q M1) : wC_Echo_place a0 a1 a2 a3 M Q := by
  unfold wC_Echo_place
  have hF0 : ∀ j9 : Nat, ¬ (j9 = 78) → M j9 = M j9 := fun j9 _ => rfl
  intro M1 e2
  have hB3 : BN wC M1 := by rw [e2]; exact BN.up hB (rfl : zcd wC 78 = 30) rfl (by omega) (by omega)
  have hF4 : ∀ j9 : Nat, ¬ (j9 = 78) → M1 j9 = M j9 := fun j9 h9 => by rw [e2]; exact (zup_row _ _ (by omega)).trans (hF0 j9 h9)
  have r5 : M1 78 0 = M 78 0 := by rw [e2]; exact zup_n _ _ (by omega)
  have r6 : M1 78 3 = a0 := by rw [e2]; exact zup_s _ _ _ _
  have r7 : M1 78 4 = M 78 4 := by rw [e2]; exact zup_n _ _ (by omega)
  have r8 : M1 78 5 = M 78 5 := by rw [e2]; exact zup_n _ _ (by omega)
  have r9 : M1 78 6 = M 78 6 := by rw [e2]; exact zup_n _ _ (by omega)
  intro M10 e11
  have hB12 : BN wC M10 := by rw [e11]; exact BN.up hB3 (rfl : zcd wC 78 = 30) rfl (by omega) (by omega)
  have hF13 : ∀ j9 : Nat, ¬ (j9 = 78) → M10 j9 = M j9 := fun j9 h9 => by rw [e11]; exact (zup_row _ _ (by omega)).trans (hF4 j9 h9)
  have r14 : M10 78 0 = M1 78 0 := by rw [e11]; exact zup_n _ _ (by omega)
  have r15 : M10 78 3 = M1 78 3 := by rw [e11]; exact zup_n _ _ (by omega)
  have r16 : M10 78 4 = a1 := by rw [e11]; exact zup_s _ _ _ _
  have r17 : M10 78 5 = M1 78 5 := by rw [e11]; exact zup_n _ _ (by omega)
  have r18 : M10 78 6 = M1 78 6 := by rw [e11]; exact zup_n _ _ (by omega)
  intro M19 e20
  have hB21 : BN wC M19 := by rw [e20]; exact BN.up hB12 (rfl : zcd wC 78 = 30) rfl (by omega) (by omega)
  have hF22 : ∀ j9 : Nat, ¬ (j9 = 78) → M19 j9 = M j9 := fun j9 h9 => by rw [e20]; exact (zup_row _ _ (by omega)).trans (hF13 j9 h9)
  have r23 : M19 78 0 = M10 78 0 := by rw [e20]; exact zup_n _ _ (by omega)
  have r24 : M19 78 3 = M10 78 3 := by rw [e20]; exact zup_n _ _ (by omega)
  have r25 : M19 78 4 = M10 78 4 := by rw [e20]; exact zup_n _ _ (by omega)
  have r26 : M19 78 5 = a2 := by rw [e20]; exact zup_s _ _ _ _
  have r27 : M19 78 6 = M10 78 6 := by rw [e20]; exact zup_n _ _ (by omega)
  intro M28 e29
  have hB30 : BN wC M28 := by rw [e29]; exact BN.up hB21 (rfl : zcd wC 78 = 30) rfl (by omega) (by omega)
  have hF31 : ∀ j9 : Nat, ¬ (j9 = 78) → M28 j9 = M j9 := fun j9 h9 => by rw [e29]; exact (zup_row _ _ (by omega)).trans (hF22 j9 h9)
  have r32 : M28 78 0 = M19 78 0 := by rw [e29]; exact zup_n _ _ (by omega)
  have r33 : M28 78 3 = M19 78 3 := by rw [e29]; exact zup_n _ _ (by omega)
  have r34 : M28 78 4 = M19 78 4 := by rw [e29]; exact zup_n _ _ (by omega)
  have r35 : M28 78 5 = M19 78 5 := by rw [e29]; exact zup_n _ _ (by omega)
  have r36 : M28 78 6 = a3 := by rw [e29]; exact zup_s _ _ _ _
  exact hQ _ ⟨hB30, hF31, (by omega), (by omega), (by omega), (by omega), (by omega), trivial⟩
set_option maxHeartbeats 4000000 in
set_option maxRecDepth 100000 in
theorem sC_heads {M : zM} {a0 : Int} {a1 : Int} {a2 : Int} {a3 : Int} (hB : BN wC M) (v0 : (-2147483648) ≤ a0 ∧ a0 ≤ 2147483647) (v1 : (-2147483648) ≤ a1 ∧ a1 ≤ 2147483647) (v2 : (-2147483648) ≤ a2 ∧ a2 ≤ 2147483647) (v3 : (-2147483648) ≤ a3 ∧ a3 ≤ 2147483647) {Q : Int → zM → Prop} (hQ : ∀ (z : Int) (M1 : zM), BN wC M1 ∧ (∀ j9 : Nat, ¬ (j9 = 78) → M1 j9 = M j9) ∧ (0 ≤ z ∧ z ≤ 1) ∧ ((z = 1 ∧ (1 ≤ a0 ∧ a0 ≤ 20) ∧ (0 ≤ a1 ∧ a1 ≤ 100) ∧ (1 ≤ a2 ∧ a2 ≤ 20) ∧ (0 ≤ a3 ∧ a3 ≤ 100)) ∨ (z = 0 ∧ ¬ ((1 ≤ a0 ∧ a0 ≤ 20) ∧ (0 ≤ a1 ∧ a1 ≤ 100) ∧ (1 ≤ a2 ∧ a2 ≤ 20) ∧ (0 ≤ a3 ∧ a3 ≤ 100)))) ∧ (M1 78 0 = M 78 0) ∧ True → Q z M1) : wC_heads a0 a1 a2 a3 M Q := by
  unfold wC_heads
  have hF0 : ∀ j9 : Nat, ¬ (j9 = 78) → M j9 = M j9 := fun j9 _ => rfl
  refine sC_within hB (by omega) (by omega) (by omega) (fun z1  h2 => ?_)
  obtain ⟨p3, p4, -⟩ := h2
  refine ⟨fun c5 => ?_, fun c5 => ?_⟩
  · skip
    exact hQ _ _ ⟨hB, hF0, (by omega), (by omega), (by omega), trivial⟩
  · skip
    refine sC_within hB (by omega) (by omega) (by omega) (fun z6  h7 => ?_)
    obtain ⟨p8, p9, -⟩ := h7
    refine ⟨fun c10 => ?_, fun c10 => ?_⟩
    · skip
      exact hQ _ _ ⟨hB, hF0, (by omega), (by omega), (by omega), trivial⟩
    · skip
      refine sC_within hB (by omega) (by omega) (by omega) (fun z11  h12 => ?_)
      obtain ⟨p13, p14, -⟩ := h12
      refine ⟨fun c15 => ?_, fun c15 => ?_⟩
      · skip
        exact hQ _ _ ⟨hB, hF0, (by omega), (by omega), (by omega), trivial⟩
      · skip
        refine sC_within hB (by omega) (by omega) (by omega) (fun z16  h17 => ?_)
        obtain ⟨p18, p19, -⟩ := h17
        refine ⟨fun c20 => ?_, fun c20 => ?_⟩
        · skip
          refine sC_Echo_place hB (by omega) (by omega) (by omega) (by omega) (fun  M21 h22 => ?_)
          obtain ⟨hB23, f24, p25, p26, p27, p28, p29, -⟩ := h22
          have hF30 : ∀ j9 : Nat, ¬ (j9 = 78) → M21 j9 = M j9 := fun j9 h9 => ((f24 j9 (by omega)).trans (hF0 j9 h9))
          exact hQ _ _ ⟨hB23, hF30, (by omega), (by omega), (by omega), trivial⟩
        · skip
          exact hQ _ _ ⟨hB, hF0, (by omega), (by omega), (by omega), trivial⟩
set_option maxHeartbeats 4000000 in
set_option maxRecDepth 100000 in
theorem sC_stop {M : zM} {a0 : Int} (hB : BN wC M) (v0 : (-2147483648) ≤ a0 ∧ a0 ≤ 2147483647) {Q : Int → zM → Prop} (hQ : ∀ (z : Int) (M1 : zM), BN wC M1 ∧ (∀ j9 : Nat, ¬ (j9 = 78) → M1 j9 = M j9) ∧ ((-2147483648) ≤ z ∧ z ≤ 2147483647) ∧ ((0 ≤ a0 ∧ a0 ≤ 2000 ∧ z = M 78 0 ∧ M1 78 0 = a0) ∨ (¬ (0 ≤ a0 ∧ a0 ≤ 2000) ∧ z = -1 ∧ M1 78 0 = M 78 0)) ∧ True → Q z M1) : wC_stop a0 M Q := by
  unfold wC_stop
  have hF0 : ∀ j9 : Nat, ¬ (j9 = 78) → M j9 = M j9 := fun j9 _ => rfl
  refine sC_within hB (by omega) (by omega) (by omega) (fun z1  h2 => ?_)
  obtain ⟨p3, p4, -⟩ := h2
  refine ⟨fun c5 => ?_, fun c5 => ?_⟩
  · skip
    have q6 : 0 ≤ (M 78 0) ∧ (M 78 0) ≤ 2000 := BN.at hB (rfl : zcd wC 78 = 30) rfl
    intro M7 e8
    have hB9 : BN wC M7 := by rw [e8]; exact BN.up hB (rfl : zcd wC 78 = 30) rfl (by omega) (by omega)
    have hF10 : ∀ j9 : Nat, ¬ (j9 = 78) → M7 j9 = M j9 := fun j9 h9 => by rw [e8]; exact (zup_row _ _ (by omega)).trans (hF0 j9 h9)
    have r11 : M7 78 0 = a0 := by rw [e8]; exact zup_s _ _ _ _
    have s12 : sI (M 78 0) = (M 78 0) := sIo (by omega) (by omega)
    exact hQ _ _ ⟨hB9, hF10, (by omega), (by omega), trivial⟩
  · skip
    exact hQ _ _ ⟨hB, hF0, (by omega), (by omega), trivial⟩
set_option maxHeartbeats 4000000 in
set_option maxRecDepth 100000 in
theorem sC_Echo_loudness {M : zM} {a0 : Int} (hB : BN wC M) (v0 : (-2147483648) ≤ a0 ∧ a0 ≤ 2147483647) {Q : Int → Prop} (hQ : ∀ (z : Int), ((-2147483648) ≤ z ∧ z ≤ 2147483647) ∧ True → Q z) : wC_Echo_loudness a0 M Q := by
  unfold wC_Echo_loudness
  refine pL2_of (fun x1 x2 => (1 ≤ x2 ∧ x2 ≤ 1000000) ∧ True) (fun x1 x2 => (1000000 - x2).toNat) ⟨(by omega), trivial⟩ (fun K x1 x2 h4 k5 => ?_)
  obtain ⟨i3, -⟩ := h4
  have s6 : sI x2 = x2 := sIo (by omega) (by omega)
  refine ⟨fun c7 => ?_, fun c7 => ?_⟩
  · skip
    have s8 := sI_R x1
    exact hQ _ ⟨(by omega), trivial⟩
  · skip
    have q9 := shrI_R a0 x2
    have q10 := andI_br (shrI a0 x2) (c := 1) (by decide) (by decide)
    have o11 : 0 ≤ (sI x2) ∧ (sI x2) < 10 := by omega
    refine ⟨o11, ?_⟩
    have q12 : (-2147483648) ≤ (M 80 (sI x2).toNat) ∧ (M 80 (sI x2).toNat) ≤ 2147483647 := BN.at hB (rfl : zcd wC 80 = 32) rfl
    intro t13 e14
    exact k5 _ _ ⟨(by omega), trivial⟩ (by omega)
set_option maxHeartbeats 4000000 in
set_option maxRecDepth 100000 in
theorem sC_Echo_outAt {M : zM} {a0 : Int} (hB : BN wC M) (v0 : (-2147483648) ≤ a0 ∧ a0 ≤ 2147483647) {Q : Int → Prop} (hQ : ∀ (z : Int), ((-2147483648) ≤ z ∧ z ≤ 2147483647) ∧ True → Q z) : wC_Echo_outAt a0 M Q := by
  unfold wC_Echo_outAt
  have s1 : sI a0 = a0 := sIo (by omega) (by omega)
  refine ⟨fun c2 => ?_, fun c2 => ?_⟩
  · skip
    exact hQ _ ⟨(by omega), trivial⟩
  · skip
    refine ⟨fun c3 => ?_, fun c3 => ?_⟩
    · skip
      exact hQ _ ⟨(by omega), trivial⟩
    · skip
      have o4 : 0 ≤ (sI a0) ∧ (sI a0) < 4001 := by omega
      refine ⟨o4, ?_⟩
      have q5 : (-2147483648) ≤ (M 81 (sI a0).toNat) ∧ (M 81 (sI a0).toNat) ≤ 2147483647 := BN.at hB (rfl : zcd wC 81 = 33) rfl
      have s6 : sI (M 81 (sI a0).toNat) = (M 81 (sI a0).toNat) := sIo (by omega) (by omega)
      exact hQ _ ⟨(by omega), trivial⟩
set_option maxHeartbeats 4000000 in
set_option maxRecDepth 100000 in
theorem sC_Echo_behind {M : zM} {a0 : Int} {a1 : Int} (hB : BN wC M) (v0 : (-2147483648) ≤ a0 ∧ a0 ≤ 2147483647) (v1 : (-2147483648) ≤ a1 ∧ a1 ≤ 2147483647) {Q : Int → Prop} (hQ : ∀ (z : Int), ((-2147483648) ≤ z ∧ z ≤ 2147483647) ∧ True → Q z) : wC_Echo_behind a0 a1 M Q := by
  unfold wC_Echo_behind
  refine sC_Echo_outAt hB (by omega) (fun z1  h2 => ?_)
  obtain ⟨p3, -⟩ := h2
  have s4 := sI_R (z1 * a1)
  have s5 := sI_R ((sI (z1 * a1)).tdiv 100)
  exact hQ _ ⟨(by omega), trivial⟩
set_option maxHeartbeats 4000000 in
set_option maxRecDepth 100000 in
theorem sC_Echo_run {M : zM} {a1 : Int} (hB : BN wC M) (v1 : 0 ≤ a1 ∧ a1 ≤ 4000) {Q : zM → Prop} (hQ : ∀ (M1 : zM), BN wC M1 ∧ (∀ j9 : Nat, ¬ (j9 = 81) → M1 j9 = M j9) ∧ True → Q M1) : wC_Echo_run a1 M Q := by
  unfold wC_Echo_run
  have hF0 : ∀ j9 : Nat, ¬ (j9 = 81) → M j9 = M j9 := fun j9 _ => rfl
  refine wL1_of (fun x1 M2 => BN wC M2 ∧ (∀ j9 : Nat, ¬ (j9 = 81) → M2 j9 = M j9) ∧ (0 ≤ x1 ∧ x1 ≤ 1000000) ∧ True) (fun x1 M2 => (1000000 - x1).toNat) ⟨hB, hF0, (by omega), trivial⟩ (fun K x1 M2 h6 k7 => ?_)
  obtain ⟨hB3, hF4, i5, -⟩ := h6
  have s8 : sI x1 = x1 := sIo (by omega) (by omega)
  have s9 : sI a1 = a1 := sIo (by omega) (by omega)
  refine ⟨fun c10 => ?_, fun c10 => ?_⟩
  · skip
    exact hQ _ ⟨hB3, hF4, trivial⟩
  · skip
    refine ⟨fun c11 => ?_, fun c11 => ?_⟩
    · skip
      exact hQ _ ⟨hB3, hF4, trivial⟩
    · skip
      have q12 : 0 ≤ (M2 78 0) ∧ (M2 78 0) ≤ 2000 := BN.at hB3 (rfl : zcd wC 78 = 30) rfl
      have s13 : sI (M2 78 0) = (M2 78 0) := sIo (by omega) (by omega)
      refine pJ1_dup ?_
      refine ⟨fun c14 => ?_, fun c14 => ?_⟩
      · skip
        have s15 : sI 0 = 0 := sIo (by omega) (by omega)
        have q16 : 0 ≤ (M2 78 3) ∧ (M2 78 3) ≤ 20 := BN.at hB3 (rfl : zcd wC 78 = 30) rfl
        have q17 : (-2147483648) ≤ (M2 78 4) ∧ (M2 78 4) ≤ 2147483647 := BN.at hB3 (rfl : zcd wC 78 = 30) rfl
        refine sC_Echo_behind hB3 (by omega) (by omega) (fun z18  h19 => ?_)
        obtain ⟨p20, -⟩ := h19
        have q21 : 0 ≤ (M2 78 5) ∧ (M2 78 5) ≤ 20 := BN.at hB3 (rfl : zcd wC 78 = 30) rfl
        have q22 : (-2147483648) ≤ (M2 78 6) ∧ (M2 78 6) ≤ 2147483647 := BN.at hB3 (rfl : zcd wC 78 = 30) rfl
        refine sC_Echo_behind hB3 (by omega) (by omega) (fun z23  h24 => ?_)
        obtain ⟨p25, -⟩ := h24
        have s26 := sI_R ((0 + z18) + z23)
        have o27 : 0 ≤ (sI x1) ∧ (sI x1) < 4001 := by omega
        refine ⟨o27, ?_⟩
        intro M28 e29
        have hB30 : BN wC M28 := by rw [e29]; exact BN.up hB3 (rfl : zcd wC 81 = 33) rfl (by omega) (by omega)
        have hF31 : ∀ j9 : Nat, ¬ (j9 = 81) → M28 j9 = M j9 := fun j9 h9 => by rw [e29]; exact (zup_row _ _ (by omega)).trans (hF4 j9 h9)
        exact k7 _ _ ⟨hB30, hF31, (by omega), trivial⟩ (by omega)
      · skip
        refine sC_Studio_heardInAll hB3  (fun z32  h33 => ?_)
        obtain ⟨p34, -⟩ := h33
        refine sC_Echo_loudness hB3 (by omega) (fun z35  h36 => ?_)
        obtain ⟨p37, -⟩ := h36
        have s38 : sI z35 = z35 := sIo (by omega) (by omega)
        have q39 : 0 ≤ (M2 78 3) ∧ (M2 78 3) ≤ 20 := BN.at hB3 (rfl : zcd wC 78 = 30) rfl
        have q40 : (-2147483648) ≤ (M2 78 4) ∧ (M2 78 4) ≤ 2147483647 := BN.at hB3 (rfl : zcd wC 78 = 30) rfl
        refine sC_Echo_behind hB3 (by omega) (by omega) (fun z41  h42 => ?_)
        obtain ⟨p43, -⟩ := h42
        have q44 : 0 ≤ (M2 78 5) ∧ (M2 78 5) ≤ 20 := BN.at hB3 (rfl : zcd wC 78 = 30) rfl
        have q45 : (-2147483648) ≤ (M2 78 6) ∧ (M2 78 6) ≤ 2147483647 := BN.at hB3 (rfl : zcd wC 78 = 30) rfl
        refine sC_Echo_behind hB3 (by omega) (by omega) (fun z46  h47 => ?_)
        obtain ⟨p48, -⟩ := h47
        have s49 := sI_R ((z35 + z41) + z46)
        have o50 : 0 ≤ (sI x1) ∧ (sI x1) < 4001 := by omega
        refine ⟨o50, ?_⟩
        intro M51 e52
        have hB53 : BN wC M51 := by rw [e52]; exact BN.up hB3 (rfl : zcd wC 81 = 33) rfl (by omega) (by omega)
        have hF54 : ∀ j9 : Nat, ¬ (j9 = 81) → M51 j9 = M j9 := fun j9 h9 => by rw [e52]; exact (zup_row _ _ (by omega)).trans (hF4 j9 h9)
        exact k7 _ _ ⟨hB53, hF54, (by omega), trivial⟩ (by omega)
set_option maxHeartbeats 4000000 in
set_option maxRecDepth 100000 in
theorem sC_out {M : zM} {a0 : Int} (hB : BN wC M) (v0 : (-2147483648) ≤ a0 ∧ a0 ≤ 2147483647) {Q : Int → zM → Prop} (hQ : ∀ (z : Int) (M1 : zM), BN wC M1 ∧ (∀ j9 : Nat, ¬ (j9 = 81) → M1 j9 = M j9) ∧ ((-2147483648) ≤ z ∧ z ≤ 2147483647) ∧ True → Q z M1) : wC_out a0 M Q := by
  unfold wC_out
  have hF0 : ∀ j9 : Nat, ¬ (j9 = 81) → M j9 = M j9 := fun j9 _ => rfl
  refine sC_within hB (by omega) (by omega) (by omega) (fun z1  h2 => ?_)
  obtain ⟨p3, p4, -⟩ := h2
  refine ⟨fun c5 => ?_, fun c5 => ?_⟩
  · skip
    refine sC_Echo_run hB (by omega) (fun  M6 h7 => ?_)
    obtain ⟨hB8, f9, -⟩ := h7
    have hF10 : ∀ j9 : Nat, ¬ (j9 = 81) → M6 j9 = M j9 := fun j9 h9 => ((f9 j9 (by omega)).trans (hF0 j9 h9))
    refine sC_Echo_outAt hB8 (by omega) (fun z11  h12 => ?_)
    obtain ⟨p13, -⟩ := h12
    exact hQ _ _ ⟨hB8, hF10, (by omega), trivial⟩
  · skip
    exact hQ _ _ ⟨hB, hF0, (by omega), trivial⟩
set_option maxHeartbeats 4000000 in
set_option maxRecDepth 100000 in
theorem sC_Echo_firstSilence {M : zM}  (hB : BN wC M)  {Q : Int → Prop} (hQ : ∀ (z : Int), ((-2147483648) ≤ z ∧ z ≤ 2147483647) ∧ True → Q z) : wC_Echo_firstSilence  M Q := by
  unfold wC_Echo_firstSilence
  have q1 : 0 ≤ (M 78 0) ∧ (M 78 0) ≤ 2000 := BN.at hB (rfl : zcd wC 78 = 30) rfl
  refine pL2_of (fun x2 x3 => (0 ≤ x3 ∧ x3 ≤ 1000000) ∧ True) (fun x2 x3 => (1000000 - x3).toNat) ⟨(by omega), trivial⟩ (fun K x2 x3 h5 k6 => ?_)
  obtain ⟨i4, -⟩ := h5
  have s7 : sI x3 = x3 := sIo (by omega) (by omega)
  refine ⟨fun c8 => ?_, fun c8 => ?_⟩
  · skip
    exact hQ _ ⟨(by omega), trivial⟩
  · skip
    refine sC_Echo_outAt hB (by omega) (fun z9  h10 => ?_)
    obtain ⟨p11, -⟩ := h10
    refine pJ1_dup ?_
    refine ⟨fun c12 => ?_, fun c12 => ?_⟩
    · skip
      have s13 : sI 0 = 0 := sIo (by omega) (by omega)
      refine ⟨fun c14 => ?_, fun c14 => ?_⟩
      · skip
        exact k6 _ _ ⟨(by omega), trivial⟩ (by omega)
      · skip
        have s15 : sI ((x3 - 20) + 1) = ((x3 - 20) + 1) := sIo (by omega) (by omega)
        exact hQ _ ⟨(by omega), trivial⟩
    · skip
      have s16 := sI_R (x2 + 1)
      refine ⟨fun c17 => ?_, fun c17 => ?_⟩
      · skip
        exact k6 _ _ ⟨(by omega), trivial⟩ (by omega)
      · skip
        have s18 : sI ((x3 - 20) + 1) = ((x3 - 20) + 1) := sIo (by omega) (by omega)
        exact hQ _ ⟨(by omega), trivial⟩
set_option maxHeartbeats 4000000 in
set_option maxRecDepth 100000 in
theorem sC_Echo_alike {M : zM} {a0 : Int} {a1 : Int} (hB : BN wC M) (v0 : 0 ≤ a0 ∧ a0 ≤ 4000) (v1 : 0 ≤ a1 ∧ a1 ≤ 4000) {Q : Int → Prop} (hQ : ∀ (z : Int), (0 ≤ z ∧ z ≤ 1) ∧ True → Q z) : wC_Echo_alike a0 a1 M Q := by
  unfold wC_Echo_alike
  refine pL1_of (fun x1 => (0 ≤ x1 ∧ x1 ≤ 1000000) ∧ True) (fun x1 => (1000000 - x1).toNat) ⟨(by omega), trivial⟩ (fun K x1 h3 k4 => ?_)
  obtain ⟨i2, -⟩ := h3
  have s5 : sI x1 = x1 := sIo (by omega) (by omega)
  refine ⟨fun c6 => ?_, fun c6 => ?_⟩
  · skip
    exact hQ _ ⟨(by omega), trivial⟩
  · skip
    refine sC_Echo_outAt hB (by omega) (fun z7  h8 => ?_)
    obtain ⟨p9, -⟩ := h8
    refine sC_Echo_outAt hB (by omega) (fun z10  h11 => ?_)
    obtain ⟨p12, -⟩ := h11
    refine ⟨fun c13 => ?_, fun c13 => ?_⟩
    · skip
      exact k4 _ ⟨(by omega), trivial⟩ (by omega)
    · skip
      exact hQ _ ⟨(by omega), trivial⟩
set_option maxHeartbeats 4000000 in
set_option maxRecDepth 100000 in
theorem sC_Echo_comesBackIn {M : zM}  (hB : BN wC M)  {Q : Int → Prop} (hQ : ∀ (z : Int), ((-1) ≤ z ∧ z ≤ 4000) ∧ True → Q z) : wC_Echo_comesBackIn  M Q := by
  unfold wC_Echo_comesBackIn
  refine pL1_of (fun x1 => (1 ≤ x1 ∧ x1 ≤ 1000000) ∧ True) (fun x1 => (1000000 - x1).toNat) ⟨(by omega), trivial⟩ (fun K x1 h3 k4 => ?_)
  obtain ⟨i2, -⟩ := h3
  have q5 : 0 ≤ (M 78 0) ∧ (M 78 0) ≤ 2000 := BN.at hB (rfl : zcd wC 78 = 30) rfl
  have s6 : sI (3981 - x1) = (3981 - x1) := sIo (by omega) (by omega)
  have s7 : sI (M 78 0) = (M 78 0) := sIo (by omega) (by omega)
  refine ⟨fun c8 => ?_, fun c8 => ?_⟩
  · skip
    exact hQ _ ⟨(by omega), trivial⟩
  · skip
    refine sC_Echo_alike hB (by omega) (by omega) (fun z9  h10 => ?_)
    obtain ⟨p11, -⟩ := h10
    refine ⟨fun c12 => ?_, fun c12 => ?_⟩
    · skip
      exact k4 _ ⟨(by omega), trivial⟩ (by omega)
    · skip
      have s13 : sI x1 = x1 := sIo (by omega) (by omega)
      exact hQ _ ⟨(by omega), trivial⟩
set_option maxHeartbeats 4000000 in
set_option maxRecDepth 100000 in
theorem sC_Echo_fate {M : zM}  (hB : BN wC M)  {Q : Int → zM → Prop} (hQ : ∀ (z : Int) (M1 : zM), BN wC M1 ∧ (∀ j9 : Nat, ¬ (j9 = 79 ∨ j9 = 81) → M1 j9 = M j9) ∧ ((-2147483648) ≤ z ∧ z ≤ 2147483647) ∧ True → Q z M1) : wC_Echo_fate  M Q := by
  unfold wC_Echo_fate
  have hF0 : ∀ j9 : Nat, ¬ (j9 = 79 ∨ j9 = 81) → M j9 = M j9 := fun j9 _ => rfl
  refine sC_Echo_run hB (by omega) (fun  M1 h2 => ?_)
  obtain ⟨hB3, f4, -⟩ := h2
  have hF5 : ∀ j9 : Nat, ¬ (j9 = 79 ∨ j9 = 81) → M1 j9 = M j9 := fun j9 h9 => ((f4 j9 (by omega)).trans (hF0 j9 h9))
  refine sC_Echo_firstSilence hB3  (fun z6  h7 => ?_)
  obtain ⟨p8, -⟩ := h7
  refine ⟨fun c9 => ?_, fun c9 => ?_⟩
  · skip
    refine sC_Echo_comesBackIn hB3  (fun z10  h11 => ?_)
    obtain ⟨p12, -⟩ := h11
    refine ⟨fun c13 => ?_, fun c13 => ?_⟩
    · skip
      refine pL1_of (fun x14 => ((-1) ≤ x14 ∧ x14 ≤ 1000000) ∧ True) (fun x14 => (x14 + 1).toNat) ⟨(by omega), trivial⟩ (fun K x14 h16 k17 => ?_)
      obtain ⟨i15, -⟩ := h16
      have q18 : 0 ≤ (M1 78 0) ∧ (M1 78 0) ≤ 2000 := BN.at hB3 (rfl : zcd wC 78 = 30) rfl
      have s19 : sI x14 = x14 := sIo (by omega) (by omega)
      have s20 : sI (M1 78 0) = (M1 78 0) := sIo (by omega) (by omega)
      refine pJ0_dup ?_
      refine ⟨fun c21 => ?_, fun c21 => ?_⟩
      · skip
        intro M22 e23
        have hB24 : BN wC M22 := by rw [e23]; exact BN.up hB3 (rfl : zcd wC 79 = 31) rfl (by omega) (by omega)
        have hF25 : ∀ j9 : Nat, ¬ (j9 = 79 ∨ j9 = 81) → M22 j9 = M j9 := fun j9 h9 => by rw [e23]; exact (zup_row _ _ (by omega)).trans (hF5 j9 h9)
        intro M26 e27
        have hB28 : BN wC M26 := by rw [e27]; exact BN.up hB24 (rfl : zcd wC 79 = 31) rfl (by omega) (by omega)
        have hF29 : ∀ j9 : Nat, ¬ (j9 = 79 ∨ j9 = 81) → M26 j9 = M j9 := fun j9 h9 => by rw [e27]; exact (zup_row _ _ (by omega)).trans (hF25 j9 h9)
        exact hQ _ _ ⟨hB28, hF29, (by omega), trivial⟩
      · skip
        refine sC_Echo_outAt hB3 (by omega) (fun z30  h31 => ?_)
        obtain ⟨p32, -⟩ := h31
        refine sC_Echo_outAt hB3 (by omega) (fun z33  h34 => ?_)
        obtain ⟨p35, -⟩ := h34
        refine ⟨fun c36 => ?_, fun c36 => ?_⟩
        · skip
          intro M37 e38
          have hB39 : BN wC M37 := by rw [e38]; exact BN.up hB3 (rfl : zcd wC 79 = 31) rfl (by omega) (by omega)
          have hF40 : ∀ j9 : Nat, ¬ (j9 = 79 ∨ j9 = 81) → M37 j9 = M j9 := fun j9 h9 => by rw [e38]; exact (zup_row _ _ (by omega)).trans (hF5 j9 h9)
          intro M41 e42
          have hB43 : BN wC M41 := by rw [e42]; exact BN.up hB39 (rfl : zcd wC 79 = 31) rfl (by omega) (by omega)
          have hF44 : ∀ j9 : Nat, ¬ (j9 = 79 ∨ j9 = 81) → M41 j9 = M j9 := fun j9 h9 => by rw [e42]; exact (zup_row _ _ (by omega)).trans (hF40 j9 h9)
          exact hQ _ _ ⟨hB43, hF44, (by omega), trivial⟩
        · skip
          exact k17 _ ⟨(by omega), trivial⟩ (by omega)
    · skip
      exact hQ _ _ ⟨hB3, hF5, (by omega), trivial⟩
  · skip
    exact hQ _ _ ⟨hB3, hF5, (by omega), trivial⟩
set_option maxHeartbeats 4000000 in
set_option maxRecDepth 100000 in
theorem sC_dies {M : zM}  (hB : BN wC M)  {Q : Int → zM → Prop} (hQ : ∀ (z : Int) (M1 : zM), BN wC M1 ∧ (∀ j9 : Nat, ¬ (j9 = 79 ∨ j9 = 81 ∨ j9 = 0 ∨ j9 = 133) → M1 j9 = M j9) ∧ ((-2147483648) ≤ z ∧ z ≤ 2147483647) ∧ True → Q z M1) : wC_dies  M Q := by
  unfold wC_dies
  have hF0 : ∀ j9 : Nat, ¬ (j9 = 79 ∨ j9 = 81 ∨ j9 = 0 ∨ j9 = 133) → M j9 = M j9 := fun j9 _ => rfl
  refine sC_Echo_fate hB  (fun z1 M2 h3 => ?_)
  obtain ⟨hB4, f5, p6, -⟩ := h3
  have hF7 : ∀ j9 : Nat, ¬ (j9 = 79 ∨ j9 = 81 ∨ j9 = 0 ∨ j9 = 133) → M2 j9 = M j9 := fun j9 h9 => ((f5 j9 (by omega)).trans (hF0 j9 h9))
  refine ⟨fun c8 => ?_, fun c8 => ?_⟩
  · skip
    exact hQ _ _ ⟨hB4, hF7, (by omega), trivial⟩
  · skip
    refine sC_tell hB4 (by decide) (rfl : zcd wC 79 = 31) (by omega) (by decide) (fun  M9 h10 => ?_)
    obtain ⟨hB11, f12, -⟩ := h10
    have hF13 : ∀ j9 : Nat, ¬ (j9 = 79 ∨ j9 = 81 ∨ j9 = 0 ∨ j9 = 133) → M9 j9 = M j9 := fun j9 h9 => ((f12 j9 (by omega)).trans (hF7 j9 h9))
    exact hQ _ _ ⟨hB11, hF13, (by omega), trivial⟩
set_option maxHeartbeats 4000000 in
set_option maxRecDepth 100000 in
theorem sC_OldTape_add {M : zM} {a0 : Int} (hB : BN wC M) (v0 : (-2147483648) ≤ a0 ∧ a0 ≤ 2147483647) {Q : Int → zM → Prop} (hQ : ∀ (z : Int) (M1 : zM), BN wC M1 ∧ (∀ j9 : Nat, ¬ (82 ≤ j9 ∧ j9 ≤ 85) → M1 j9 = M j9) ∧ ((-2147483648) ≤ z ∧ z ≤ 2147483647) ∧ ((M 82 1 < 60 ∧ z = M 82 1 + 1 ∧ M1 82 1 = M 82 1 + 1) ∨ (M 82 1 = 60 ∧ z = -1 ∧ M1 82 1 = M 82 1)) ∧ True → Q z M1) : wC_OldTape_add a0 M Q := by
  unfold wC_OldTape_add
  have hF0 : ∀ j9 : Nat, ¬ (82 ≤ j9 ∧ j9 ≤ 85) → M j9 = M j9 := fun j9 _ => rfl
  have q1 : 0 ≤ (M 82 1) ∧ (M 82 1) ≤ 60 := BN.at hB (rfl : zcd wC 82 = 34) rfl
  have s2 : sI (M 82 1) = (M 82 1) := sIo (by omega) (by omega)
  refine ⟨fun c3 => ?_, fun c3 => ?_⟩
  · skip
    have o5 : 0 ≤ (sI (M 82 1)) ∧ (sI (M 82 1)) < 60 := by omega
    refine ⟨o5, ?_⟩
    intro M6 e7
    have hB8 : BN wC M6 := by rw [e7]; exact BN.up hB (rfl : zcd wC 83 = 35) rfl (by omega) (by omega)
    have hF9 : ∀ j9 : Nat, ¬ (82 ≤ j9 ∧ j9 ≤ 85) → M6 j9 = M j9 := fun j9 h9 => by rw [e7]; exact (zup_row _ _ (by omega)).trans (hF0 j9 h9)
    have r10 : M6 82 1 = M 82 1 := by rw [e7]; exact zup_n _ _ (by omega)
    have q11 : 0 ≤ (M6 82 1) ∧ (M6 82 1) ≤ 60 := BN.at hB8 (rfl : zcd wC 82 = 34) rfl
    intro M12 e13
    have hB14 : BN wC M12 := by rw [e13]; exact BN.up hB8 (rfl : zcd wC 82 = 34) rfl (by omega) (by omega)
    have hF15 : ∀ j9 : Nat, ¬ (82 ≤ j9 ∧ j9 ≤ 85) → M12 j9 = M j9 := fun j9 h9 => by rw [e13]; exact (zup_row _ _ (by omega)).trans (hF9 j9 h9)
    have r16 : M12 82 1 = ((M6 82 1) + 1) := by rw [e13]; exact zup_s _ _ _ _
    have q17 : 0 ≤ (M12 82 1) ∧ (M12 82 1) ≤ 60 := BN.at hB14 (rfl : zcd wC 82 = 34) rfl
    have s18 : sI (M12 82 1) = (M12 82 1) := sIo (by omega) (by omega)
    exact hQ _ _ ⟨hB14, hF15, (by omega), (by omega), trivial⟩
  · skip
    exact hQ _ _ ⟨hB, hF0, (by omega), (by omega), trivial⟩
set_option maxHeartbeats 4000000 in
set_option maxRecDepth 100000 in
theorem sC_tape {M : zM} {a0 : Int} (hB : BN wC M) (v0 : (-2147483648) ≤ a0 ∧ a0 ≤ 2147483647) {Q : Int → zM → Prop} (hQ : ∀ (z : Int) (M1 : zM), BN wC M1 ∧ (∀ j9 : Nat, ¬ (82 ≤ j9 ∧ j9 ≤ 85) → M1 j9 = M j9) ∧ ((-2147483648) ≤ z ∧ z ≤ 2147483647) ∧ (((a0 = -1 ∨ andI a0 (-1023) = 0) ∧ M 82 1 < 60 ∧ z = M 82 1 + 1 ∧ M1 82 1 = M 82 1 + 1) ∨ (¬ ((a0 = -1 ∨ andI a0 (-1023) = 0) ∧ M 82 1 < 60) ∧ z = -1 ∧ M1 82 1 = M 82 1)) ∧ True → Q z M1) : wC_tape a0 M Q := by
  unfold wC_tape
  have hF0 : ∀ j9 : Nat, ¬ (82 ≤ j9 ∧ j9 ≤ 85) → M j9 = M j9 := fun j9 _ => rfl
  have s1 : sI a0 = a0 := sIo (by omega) (by omega)
  refine ⟨fun c2 => ?_, fun c2 => ?_⟩
  · skip
    refine sC_OldTape_add hB (by omega) (fun z3 M4 h5 => ?_)
    obtain ⟨hB6, f7, p8, p9, -⟩ := h5
    have hF10 : ∀ j9 : Nat, ¬ (82 ≤ j9 ∧ j9 ≤ 85) → M4 j9 = M j9 := fun j9 h9 => ((f7 j9 (by omega)).trans (hF0 j9 h9))
    exact hQ _ _ ⟨hB6, hF10, (by omega), (by omega), trivial⟩
  · skip
    refine sC_isSounds hB (by omega) (fun z11  h12 => ?_)
    obtain ⟨p13, p14, -⟩ := h12
    refine ⟨fun c15 => ?_, fun c15 => ?_⟩
    · skip
      exact hQ _ _ ⟨hB, hF0, (by omega), (by omega), trivial⟩
    · skip
      refine sC_OldTape_add hB (by omega) (fun z16 M17 h18 => ?_)
      obtain ⟨hB19, f20, p21, p22, -⟩ := h18
      have hF23 : ∀ j9 : Nat, ¬ (82 ≤ j9 ∧ j9 ≤ 85) → M17 j9 = M j9 := fun j9 h9 => ((f20 j9 (by omega)).trans (hF0 j9 h9))
      exact hQ _ _ ⟨hB19, hF23, (by omega), (by omega), trivial⟩
set_option maxHeartbeats 4000000 in
set_option maxRecDepth 100000 in
theorem sC_take {M : zM} {a0 : Int} {a1 : Int} (hB : BN wC M) (v0 : (-2147483648) ≤ a0 ∧ a0 ≤ 2147483647) (v1 : (-2147483648) ≤ a1 ∧ a1 ≤ 2147483647) {Q : Int → zM → Prop} (hQ : ∀ (z : Int) (M1 : zM), BN wC M1 ∧ (∀ j9 : Nat, ¬ (82 ≤ j9 ∧ j9 ≤ 85) → M1 j9 = M j9) ∧ (0 ≤ z ∧ z ≤ 1) ∧ ((((0 ≤ a0 ∧ a0 ≤ 100000) ∧ (0 ≤ a1 ∧ a1 ≤ 60)) ∧ z = 1 ∧ M1 82 1 = a1) ∨ (¬ ((0 ≤ a0 ∧ a0 ≤ 100000) ∧ (0 ≤ a1 ∧ a1 ≤ 60)) ∧ z = 0 ∧ M1 82 1 = M 82 1)) ∧ True → Q z M1) : wC_take a0 a1 M Q := by
  unfold wC_take
  have hF0 : ∀ j9 : Nat, ¬ (82 ≤ j9 ∧ j9 ≤ 85) → M j9 = M j9 := fun j9 _ => rfl
  refine sC_within hB (by omega) (by omega) (by omega) (fun z1  h2 => ?_)
  obtain ⟨p3, p4, -⟩ := h2
  refine ⟨fun c5 => ?_, fun c5 => ?_⟩
  · skip
    exact hQ _ _ ⟨hB, hF0, (by omega), (by omega), trivial⟩
  · skip
    refine sC_within hB (by omega) (by omega) (by omega) (fun z6  h7 => ?_)
    obtain ⟨p8, p9, -⟩ := h7
    refine ⟨fun c10 => ?_, fun c10 => ?_⟩
    · skip
      intro M11 e12
      have hB13 : BN wC M11 := by rw [e12]; exact BN.up hB (rfl : zcd wC 82 = 34) rfl (by omega) (by omega)
      have hF14 : ∀ j9 : Nat, ¬ (82 ≤ j9 ∧ j9 ≤ 85) → M11 j9 = M j9 := fun j9 h9 => by rw [e12]; exact (zup_row _ _ (by omega)).trans (hF0 j9 h9)
      have r15 : M11 82 1 = 0 := by rw [e12]; exact zup_s _ _ _ _
      refine wL1_of (fun x16 M17 => BN wC M17 ∧ (∀ j9 : Nat, ¬ (82 ≤ j9 ∧ j9 ≤ 85) → M17 j9 = M j9) ∧ (0 ≤ x16 ∧ x16 ≤ 1000000) ∧ (M17 82 1 = x16) ∧ (x16 ≤ a1) ∧ True) (fun x16 M17 => (1000000 - x16).toNat) ⟨hB13, hF14, (by omega), (by omega), (by omega), trivial⟩ (fun K x16 M17 h23 k24 => ?_)
      obtain ⟨hB18, hF19, i20, i21, i22, -⟩ := h23
      have s25 : sI x16 = x16 := sIo (by omega) (by omega)
      have s26 : sI a1 = a1 := sIo (by omega) (by omega)
      refine ⟨fun c27 => ?_, fun c27 => ?_⟩
      · skip
        exact hQ _ _ ⟨hB18, hF19, (by omega), (by omega), trivial⟩
      · skip
        have s28 := sI_R (a0 + x16)
        refine sC_Studio_heardInAll hB18  (fun z29  h30 => ?_)
        obtain ⟨p31, -⟩ := h30
        refine sC_OldTape_add hB18 (by omega) (fun z32 M33 h34 => ?_)
        obtain ⟨hB35, f36, p37, p38, -⟩ := h34
        have hF39 : ∀ j9 : Nat, ¬ (82 ≤ j9 ∧ j9 ≤ 85) → M33 j9 = M j9 := fun j9 h9 => ((f36 j9 (by omega)).trans (hF19 j9 h9))
        exact k24 _ _ ⟨hB35, hF39, (by omega), (by omega), (by omega), trivial⟩ (by omega)
    · skip
      exact hQ _ _ ⟨hB, hF0, (by omega), (by omega), trivial⟩
set_option maxHeartbeats 4000000 in
set_option maxRecDepth 100000 in
theorem sC_OldTape_makeGap {M : zM} {a0 : Int} (hB : BN wC M) (v0 : (-2147483648) ≤ a0 ∧ a0 ≤ 2147483647) {Q : Int → zM → Prop} (hQ : ∀ (z : Int) (M1 : zM), BN wC M1 ∧ (∀ j9 : Nat, ¬ (82 ≤ j9 ∧ j9 ≤ 85) → M1 j9 = M j9) ∧ (0 ≤ z ∧ z ≤ 1) ∧ ((z = 1 ∧ 0 ≤ a0 ∧ a0 < M 82 1) ∨ (z = 0 ∧ ¬ (0 ≤ a0 ∧ a0 < M 82 1))) ∧ (M1 82 1 = M 82 1) ∧ True → Q z M1) : wC_OldTape_makeGap a0 M Q := by
  unfold wC_OldTape_makeGap
  have hF0 : ∀ j9 : Nat, ¬ (82 ≤ j9 ∧ j9 ≤ 85) → M j9 = M j9 := fun j9 _ => rfl
  have s1 : sI a0 = a0 := sIo (by omega) (by omega)
  refine ⟨fun c2 => ?_, fun c2 => ?_⟩
  · skip
    exact hQ _ _ ⟨hB, hF0, (by omega), (by omega), (by omega), trivial⟩
  · skip
    have q3 : 0 ≤ (M 82 1) ∧ (M 82 1) ≤ 60 := BN.at hB (rfl : zcd wC 82 = 34) rfl
    have s4 : sI (M 82 1) = (M 82 1) := sIo (by omega) (by omega)
    refine ⟨fun c5 => ?_, fun c5 => ?_⟩
    · skip
      have o6 : 0 ≤ (sI a0) ∧ (sI a0) < 60 := by omega
      refine ⟨o6, ?_⟩
      intro M7 e8
      have hB9 : BN wC M7 := by rw [e8]; exact BN.up hB (rfl : zcd wC 83 = 35) rfl (by omega) (by omega)
      have hF10 : ∀ j9 : Nat, ¬ (82 ≤ j9 ∧ j9 ≤ 85) → M7 j9 = M j9 := fun j9 h9 => by rw [e8]; exact (zup_row _ _ (by omega)).trans (hF0 j9 h9)
      have r11 : M7 82 1 = M 82 1 := by rw [e8]; exact zup_n _ _ (by omega)
      exact hQ _ _ ⟨hB9, hF10, (by omega), (by omega), (by omega), trivial⟩
    · skip
      exact hQ _ _ ⟨hB, hF0, (by omega), (by omega), (by omega), trivial⟩
set_option maxHeartbeats 4000000 in
set_option maxRecDepth 100000 in
theorem sC_gap {M : zM} {a0 : Int} (hB : BN wC M) (v0 : (-2147483648) ≤ a0 ∧ a0 ≤ 2147483647) {Q : Int → zM → Prop} (hQ : ∀ (z : Int) (M1 : zM), BN wC M1 ∧ (∀ j9 : Nat, ¬ (82 ≤ j9 ∧ j9 ≤ 85) → M1 j9 = M j9) ∧ (0 ≤ z ∧ z ≤ 1) ∧ ((z = 1 ∧ 0 ≤ a0 ∧ a0 < M 82 1) ∨ (z = 0 ∧ ¬ (0 ≤ a0 ∧ a0 < M 82 1))) ∧ (M1 82 1 = M 82 1) ∧ True → Q z M1) : wC_gap a0 M Q := by
  unfold wC_gap
  have hF0 : ∀ j9 : Nat, ¬ (82 ≤ j9 ∧ j9 ≤ 85) → M j9 = M j9 := fun j9 _ => rfl
  refine sC_OldTape_makeGap hB (by omega) (fun z1 M2 h3 => ?_)
  obtain ⟨hB4, f5, p6, p7, p8, -⟩ := h3
  have hF9 : ∀ j9 : Nat, ¬ (82 ≤ j9 ∧ j9 ≤ 85) → M2 j9 = M j9 := fun j9 h9 => ((f5 j9 (by omega)).trans (hF0 j9 h9))
  exact hQ _ _ ⟨hB4, hF9, (by omega), (by omega), (by omega), trivial⟩
set_option maxHeartbeats 4000000 in
set_option maxRecDepth 100000 in
theorem sC_wipe {M : zM}  (hB : BN wC M)  {Q : Int → zM → Prop} (hQ : ∀ (z : Int) (M1 : zM), BN wC M1 ∧ (∀ j9 : Nat, ¬ (82 ≤ j9 ∧ j9 ≤ 85) → M1 j9 = M j9) ∧ ((-2147483648) ≤ z ∧ z ≤ 2147483647) ∧ (z = M 82 1 ∧ M1 82 1 = 0) ∧ True → Q z M1) : wC_wipe  M Q := by
  unfold wC_wipe
  have hF0 : ∀ j9 : Nat, ¬ (82 ≤ j9 ∧ j9 ≤ 85) → M j9 = M j9 := fun j9 _ => rfl
  have q1 : 0 ≤ (M 82 1) ∧ (M 82 1) ≤ 60 := BN.at hB (rfl : zcd wC 82 = 34) rfl
  intro M2 e3
  have hB4 : BN wC M2 := by rw [e3]; exact BN.up hB (rfl : zcd wC 82 = 34) rfl (by omega) (by omega)
  have hF5 : ∀ j9 : Nat, ¬ (82 ≤ j9 ∧ j9 ≤ 85) → M2 j9 = M j9 := fun j9 h9 => by rw [e3]; exact (zup_row _ _ (by omega)).trans (hF0 j9 h9)
  have r6 : M2 82 1 = 0 := by rw [e3]; exact zup_s _ _ _ _
  have s7 : sI (M 82 1) = (M 82 1) := sIo (by omega) (by omega)
  exact hQ _ _ ⟨hB4, hF5, (by omega), (by omega), trivial⟩
set_option maxHeartbeats 4000000 in
set_option maxRecDepth 100000 in
theorem sC_OldTape_spanFits {M : zM} {a0 : Int} (hB : BN wC M) (v0 : 1 ≤ a0 ∧ a0 ≤ 24) {Q : Int → zM → Prop} (hQ : ∀ (z : Int) (M1 : zM), BN wC M1 ∧ (∀ j9 : Nat, ¬ (82 ≤ j9 ∧ j9 ≤ 85) → M1 j9 = M j9) ∧ (0 ≤ z ∧ z ≤ 1) ∧ (M1 82 1 = M 82 1) ∧ True → Q z M1) : wC_OldTape_spanFits a0 M Q := by
  unfold wC_OldTape_spanFits
  have hF0 : ∀ j9 : Nat, ¬ (82 ≤ j9 ∧ j9 ≤ 85) → M j9 = M j9 := fun j9 _ => rfl
  refine sC_fill hB (by decide) (rfl : zcd wC 84 = 36) (by omega) (fun _ => rfl) (by omega) (by omega) (fun  M1 h2 => ?_)
  obtain ⟨hB3, f4, p5, -⟩ := h2
  have hF6 : ∀ j9 : Nat, ¬ (82 ≤ j9 ∧ j9 ≤ 85) → M1 j9 = M j9 := fun j9 h9 => ((f4 j9 (by omega)).trans (hF0 j9 h9))
  have r7 : M1 82 1 = M 82 1 := congrFun (f4 82 (by omega)) 1
  refine wL1_of (fun x8 M9 => BN wC M9 ∧ (∀ j9 : Nat, ¬ (82 ≤ j9 ∧ j9 ≤ 85) → M9 j9 = M j9) ∧ (0 ≤ x8 ∧ x8 ≤ 1000000) ∧ (M9 82 1 = M 82 1) ∧ True) (fun x8 M9 => (1000000 - x8).toNat) ⟨hB3, hF6, (by omega), (by omega), trivial⟩ (fun K x8 M9 h14 k15 => ?_)
  obtain ⟨hB10, hF11, i12, i13, -⟩ := h14
  have q16 : 0 ≤ (M9 82 1) ∧ (M9 82 1) ≤ 60 := BN.at hB10 (rfl : zcd wC 82 = 34) rfl
  have s17 : sI x8 = x8 := sIo (by omega) (by omega)
  have s18 : sI (M9 82 1) = (M9 82 1) := sIo (by omega) (by omega)
  refine ⟨fun c19 => ?_, fun c19 => ?_⟩
  · skip
    exact hQ _ _ ⟨hB10, hF11, (by omega), (by omega), trivial⟩
  · skip
    refine sC_by hB10 (by omega) (fun z20  h21 => ?_)
    obtain ⟨p22, p23, p24, -⟩ := h21
    have o25 : 0 ≤ z20 ∧ z20 < 24 := by omega
    refine ⟨o25, ?_⟩
    have q26 : (-2147483648) ≤ (M9 84 z20.toNat) ∧ (M9 84 z20.toNat) ≤ 2147483647 := BN.at hB10 (rfl : zcd wC 84 = 36) rfl
    have s27 : sI (M9 84 z20.toNat) = (M9 84 z20.toNat) := sIo (by omega) (by omega)
    refine ⟨fun c28 => ?_, fun c28 => ?_⟩
    · skip
      have o29 : 0 ≤ (sI x8) ∧ (sI x8) < 60 := by omega
      refine ⟨o29, ?_⟩
      have q30 : (-2147483648) ≤ (M9 83 (sI x8).toNat) ∧ (M9 83 (sI x8).toNat) ≤ 2147483647 := BN.at hB10 (rfl : zcd wC 83 = 35) rfl
      have s31 : sI (M9 83 (sI x8).toNat) = (M9 83 (sI x8).toNat) := sIo (by omega) (by omega)
      refine ⟨fun c32 => ?_, fun c32 => ?_⟩
      · skip
        exact k15 _ _ ⟨hB10, hF11, (by omega), (by omega), trivial⟩ (by omega)
      · skip
        have o33 : 0 ≤ (sI x8) ∧ (sI x8) < 60 := by omega
        refine ⟨o33, ?_⟩
        have o35 : 0 ≤ z20 ∧ z20 < 24 := by omega
        refine ⟨o35, ?_⟩
        refine ⟨fun c37 => ?_, fun c37 => ?_⟩
        · skip
          exact k15 _ _ ⟨hB10, hF11, (by omega), (by omega), trivial⟩ (by omega)
        · skip
          exact hQ _ _ ⟨hB10, hF11, (by omega), (by omega), trivial⟩
    · skip
      have o38 : 0 ≤ (sI x8) ∧ (sI x8) < 60 := by omega
      refine ⟨o38, ?_⟩
      have q39 : (-2147483648) ≤ (M9 83 (sI x8).toNat) ∧ (M9 83 (sI x8).toNat) ≤ 2147483647 := BN.at hB10 (rfl : zcd wC 83 = 35) rfl
      have o40 : 0 ≤ z20 ∧ z20 < 24 := by omega
      refine ⟨o40, ?_⟩
      intro M41 e42
      have hB43 : BN wC M41 := by rw [e42]; exact BN.up hB10 (rfl : zcd wC 84 = 36) rfl (by omega) (by omega)
      have hF44 : ∀ j9 : Nat, ¬ (82 ≤ j9 ∧ j9 ≤ 85) → M41 j9 = M j9 := fun j9 h9 => by rw [e42]; exact (zup_row _ _ (by omega)).trans (hF11 j9 h9)
      have r45 : M41 82 1 = M9 82 1 := by rw [e42]; exact zup_n _ _ (by omega)
      exact k15 _ _ ⟨hB43, hF44, (by omega), (by omega), trivial⟩ (by omega)
set_option maxHeartbeats 4000000 in
set_option maxRecDepth 100000 in
theorem sC_OldTape_spanNumber {M : zM} {a0 : Int} (hB : BN wC M) (v0 : (-2147483648) ≤ a0 ∧ a0 ≤ 2147483647) {Q : Int → zM → Prop} (hQ : ∀ (z : Int) (M1 : zM), BN wC M1 ∧ (∀ j9 : Nat, ¬ (82 ≤ j9 ∧ j9 ≤ 85) → M1 j9 = M j9) ∧ ((-2147483648) ≤ z ∧ z ≤ 2147483647) ∧ (M1 82 1 = M 82 1) ∧ True → Q z M1) : wC_OldTape_spanNumber a0 M Q := by
  unfold wC_OldTape_spanNumber
  have hF0 : ∀ j9 : Nat, ¬ (82 ≤ j9 ∧ j9 ≤ 85) → M j9 = M j9 := fun j9 _ => rfl
  refine wL2_of (fun x1 x2 M3 => BN wC M3 ∧ (∀ j9 : Nat, ¬ (82 ≤ j9 ∧ j9 ≤ 85) → M3 j9 = M j9) ∧ (0 ≤ x1 ∧ x1 ≤ 1000000) ∧ (1 ≤ x2 ∧ x2 ≤ 1000000) ∧ (x1 ≤ x2) ∧ (M3 82 1 = M 82 1) ∧ True) (fun x1 x2 M3 => (100 - x2).toNat) ⟨hB, hF0, (by omega), (by omega), (by omega), (by omega), trivial⟩ (fun K x1 x2 M3 h10 k11 => ?_)
  obtain ⟨hB4, hF5, i6, i7, i8, i9, -⟩ := h10
  have s12 : sI x2 = x2 := sIo (by omega) (by omega)
  refine ⟨fun c13 => ?_, fun c13 => ?_⟩
  · skip
    exact hQ _ _ ⟨hB4, hF5, (by omega), (by omega), trivial⟩
  · skip
    refine sC_OldTape_spanFits hB4 (by omega) (fun z14 M15 h16 => ?_)
    obtain ⟨hB17, f18, p19, p20, -⟩ := h16
    have hF21 : ∀ j9 : Nat, ¬ (82 ≤ j9 ∧ j9 ≤ 85) → M15 j9 = M j9 := fun j9 h9 => ((f18 j9 (by omega)).trans (hF5 j9 h9))
    refine ⟨fun c22 => ?_, fun c22 => ?_⟩
    · skip
      exact k11 _ _ _ ⟨hB17, hF21, (by omega), (by omega), (by omega), (by omega), trivial⟩ (by omega)
    · skip
      have s23 : sI x1 = x1 := sIo (by omega) (by omega)
      have s24 : sI a0 = a0 := sIo (by omega) (by omega)
      refine ⟨fun c25 => ?_, fun c25 => ?_⟩
      · skip
        exact k11 _ _ _ ⟨hB17, hF21, (by omega), (by omega), (by omega), (by omega), trivial⟩ (by omega)
      · skip
        exact hQ _ _ ⟨hB17, hF21, (by omega), (by omega), trivial⟩
end zz30_C03
section zz30_C04
/-! safety of the class, 4 -/
set_option maxHeartbeats 4000000 in
set_option maxRecDepth 100000 in
theorem sC_span {M : zM} {a0 : Int} (hB : BN wC M) (v0 : (-2147483648) ≤ a0 ∧ a0 ≤ 2147483647) {Q : Int → zM → Prop} (hQ : ∀ (z : Int) (M1 : zM), BN wC M1 ∧ (∀ j9 : Nat, ¬ (82 ≤ j9 ∧ j9 ≤ 85) → M1 j9 = M j9) ∧ ((-2147483648) ≤ z ∧ z ≤ 2147483647) ∧ (M1 82 1 = M 82 1) ∧ True → Q z M1) : wC_span a0 M Q := by
  unfold wC_span
  have hF0 : ∀ j9 : Nat, ¬ (82 ≤ j9 ∧ j9 ≤ 85) → M j9 = M j9 := fun j9 _ => rfl
  refine sC_OldTape_spanNumber hB (by omega) (fun z1 M2 h3 => ?_)
  obtain ⟨hB4, f5, p6, p7, -⟩ := h3
  have hF8 : ∀ j9 : Nat, ¬ (82 ≤ j9 ∧ j9 ≤ 85) → M2 j9 = M j9 := fun j9 h9 => ((f5 j9 (by omega)).trans (hF0 j9 h9))
  exact hQ _ _ ⟨hB4, hF8, (by omega), (by omega), trivial⟩
theorem sC_OldTape_makeGreatest {M : zM} {a0 : Nat} {a1 : Int} (hB : BN wC M) (lt_a0 : a0 < nC) {q : Nat} (cd_a0 : zcd wC a0 = q) (v1 : 1 ≤ a1 ∧ a1 ≤ 24) (p0 : ∀ k, cbt q k = (-2147483648, 2147483647)) (p1 : zln wC a0 = 24) {Q : zM → Prop} (hQ : ∀ M1, (BN wC M1 ∧ (∀ j9 : Nat, ¬ (j9 = a0) → M1 j9 = M j9) ∧ True) → Q M1) : wC_OldTape_makeGreatest a0 a1 M Q := by
  unfold wC_OldTape_makeGreatest
  refine sC_fill hB lt_a0 cd_a0 (by omega) p0 (by omega) (by omega) (fun M1 hp => ?_)
  obtain ⟨hB1, hF1, -, -⟩ := hp
  refine wL1_of (fun x M4 => BN wC M4 ∧ (∀ j9 : Nat, ¬ (j9 = a0) → M4 j9 = M j9) ∧ (0 ≤ x ∧ x ≤ 1000000) ∧ True) (fun x _ => (1000000 - x).toNat) ⟨hB1, hF1, by omega, trivial⟩ (fun K x M4 hI hK => ?_)
  obtain ⟨hB4, hF4, i1, -⟩ := hI
  have s2 : sI x = x := sIo (by omega) (by omega)
  have b1 : 0 ≤ M4 82 1 ∧ M4 82 1 ≤ 60 := BN.at hB4 (rfl : zcd wC 82 = 34) rfl
  have s3 : sI (M4 82 1) = M4 82 1 := sIo (by omega) (by omega)
  refine ⟨fun c => hQ _ ⟨hB4, hF4, trivial⟩, fun c => ⟨by omega, fun c2 => ?_, fun c2 => ?_⟩⟩
  · exact hK _ _ ⟨hB4, hF4, by omega, trivial⟩ (by omega)
  · refine sC_by hB4 (by omega) (fun z hp => ?_)
    obtain ⟨q1, q2, q3, -⟩ := hp
    refine ⟨by omega, by omega, by omega, ?_⟩
    intro M5 e5
    have r := andI_R (M4 a0 z.toNat) (M4 83 (sI x).toNat)
    exact hK _ _ ⟨by rw [e5]; exact BN.up hB4 cd_a0 (p0 _) r.1 r.2, fun j9 h9 => by rw [e5, zup_row _ _ h9]; exact hF4 j9 h9, by omega, trivial⟩ (by omega)
set_option maxHeartbeats 4000000 in
set_option maxRecDepth 100000 in
theorem sC_OldTape_pairFits {M : zM} {a0 : Int} {a1 : Int} (hB : BN wC M) (v0 : 1 ≤ a0 ∧ a0 ≤ 24) (v1 : 1 ≤ a1 ∧ a1 ≤ 24) {Q : Int → zM → Prop} (hQ : ∀ (z : Int) (M1 : zM), BN wC M1 ∧ (∀ j9 : Nat, ¬ (82 ≤ j9 ∧ j9 ≤ 85) → M1 j9 = M j9) ∧ (0 ≤ z ∧ z ≤ 1) ∧ (M1 82 1 = M 82 1) ∧ True → Q z M1) : wC_OldTape_pairFits a0 a1 M Q := by
  unfold wC_OldTape_pairFits
  have hF0 : ∀ j9 : Nat, ¬ (82 ≤ j9 ∧ j9 ≤ 85) → M j9 = M j9 := fun j9 _ => rfl
  refine sC_OldTape_makeGreatest hB (by decide) (rfl : zcd wC 84 = 36) (by omega) (fun _ => rfl) rfl (fun  M1 h2 => ?_)
  obtain ⟨hB3, f4, -⟩ := h2
  have hF5 : ∀ j9 : Nat, ¬ (82 ≤ j9 ∧ j9 ≤ 85) → M1 j9 = M j9 := fun j9 h9 => ((f4 j9 (by omega)).trans (hF0 j9 h9))
  have r6 : M1 82 1 = M 82 1 := congrFun (f4 82 (by omega)) 1
  refine sC_OldTape_makeGreatest hB3 (by decide) (rfl : zcd wC 85 = 37) (by omega) (fun _ => rfl) rfl (fun  M7 h8 => ?_)
  obtain ⟨hB9, f10, -⟩ := h8
  have hF11 : ∀ j9 : Nat, ¬ (82 ≤ j9 ∧ j9 ≤ 85) → M7 j9 = M j9 := fun j9 h9 => ((f10 j9 (by omega)).trans (hF5 j9 h9))
  have r12 : M7 82 1 = M1 82 1 := congrFun (f10 82 (by omega)) 1
  refine pL1_of (fun x13 => (0 ≤ x13 ∧ x13 ≤ 1000000) ∧ True) (fun x13 => (1000000 - x13).toNat) ⟨(by omega), trivial⟩ (fun K x13 h15 k16 => ?_)
  obtain ⟨i14, -⟩ := h15
  have q17 : 0 ≤ (M7 82 1) ∧ (M7 82 1) ≤ 60 := BN.at hB9 (rfl : zcd wC 82 = 34) rfl
  have s18 : sI x13 = x13 := sIo (by omega) (by omega)
  have s19 : sI (M7 82 1) = (M7 82 1) := sIo (by omega) (by omega)
  refine ⟨fun c20 => ?_, fun c20 => ?_⟩
  · skip
    exact hQ _ _ ⟨hB9, hF11, (by omega), (by omega), trivial⟩
  · skip
    have o21 : 0 ≤ (sI x13) ∧ (sI x13) < 60 := by omega
    refine ⟨o21, ?_⟩
    have q22 : (-2147483648) ≤ (M7 83 (sI x13).toNat) ∧ (M7 83 (sI x13).toNat) ≤ 2147483647 := BN.at hB9 (rfl : zcd wC 83 = 35) rfl
    have s23 : sI (M7 83 (sI x13).toNat) = (M7 83 (sI x13).toNat) := sIo (by omega) (by omega)
    refine ⟨fun c24 => ?_, fun c24 => ?_⟩
    · skip
      exact k16 _ ⟨(by omega), trivial⟩ (by omega)
    · skip
      refine sC_by hB9 (by omega) (fun z25  h26 => ?_)
      obtain ⟨p27, p28, p29, -⟩ := h26
      have o30 : 0 ≤ z25 ∧ z25 < 24 := by omega
      refine ⟨o30, ?_⟩
      have q31 : (-2147483648) ≤ (M7 84 z25.toNat) ∧ (M7 84 z25.toNat) ≤ 2147483647 := BN.at hB9 (rfl : zcd wC 84 = 36) rfl
      refine sC_by hB9 (by omega) (fun z32  h33 => ?_)
      obtain ⟨p34, p35, p36, -⟩ := h33
      have o37 : 0 ≤ z32 ∧ z32 < 24 := by omega
      refine ⟨o37, ?_⟩
      have q38 : (-2147483648) ≤ (M7 85 z32.toNat) ∧ (M7 85 z32.toNat) ≤ 2147483647 := BN.at hB9 (rfl : zcd wC 85 = 37) rfl
      have q39 := orI_R (M7 84 z25.toNat) (M7 85 z32.toNat)
      have o40 : 0 ≤ (sI x13) ∧ (sI x13) < 60 := by omega
      refine ⟨o40, ?_⟩
      refine ⟨fun c42 => ?_, fun c42 => ?_⟩
      · skip
        exact k16 _ ⟨(by omega), trivial⟩ (by omega)
      · skip
        exact hQ _ _ ⟨hB9, hF11, (by omega), (by omega), trivial⟩
set_option maxHeartbeats 4000000 in
set_option maxRecDepth 100000 in
theorem sC_OldTape_pairNumber {M : zM} {a0 : Int} (hB : BN wC M) (v0 : (-2147483648) ≤ a0 ∧ a0 ≤ 2147483647) {Q : Int → zM → Prop} (hQ : ∀ (z : Int) (M1 : zM), BN wC M1 ∧ (∀ j9 : Nat, ¬ (82 ≤ j9 ∧ j9 ≤ 85) → M1 j9 = M j9) ∧ ((-1) ≤ z ∧ z ≤ 2424) ∧ (M1 82 1 = M 82 1) ∧ (z = -1 ∨ (101 ≤ z ∧ z ≤ 2424 ∧ 1 ≤ z % 100 ∧ z % 100 ≤ 24)) ∧ True → Q z M1) : wC_OldTape_pairNumber a0 M Q := by
  unfold wC_OldTape_pairNumber
  have hF0 : ∀ j9 : Nat, ¬ (82 ≤ j9 ∧ j9 ≤ 85) → M j9 = M j9 := fun j9 _ => rfl
  refine wL2_of (fun x1 x2 M3 => BN wC M3 ∧ (∀ j9 : Nat, ¬ (82 ≤ j9 ∧ j9 ≤ 85) → M3 j9 = M j9) ∧ (0 ≤ x1 ∧ x1 ≤ 1000000) ∧ (2 ≤ x2 ∧ x2 ≤ 1000000) ∧ (x1 ≤ 50 * x2) ∧ (M3 82 1 = M 82 1) ∧ True) (fun x1 x2 M3 => (100 - x2).toNat) ⟨hB, hF0, (by omega), (by omega), (by omega), (by omega), trivial⟩ (fun K x1 x2 M3 h10 k11 => ?_)
  obtain ⟨hB4, hF5, i6, i7, i8, i9, -⟩ := h10
  have s12 : sI x2 = x2 := sIo (by omega) (by omega)
  refine ⟨fun c13 => ?_, fun c13 => ?_⟩
  · skip
    exact hQ _ _ ⟨hB4, hF5, (by omega), (by omega), (by omega), trivial⟩
  · skip
    have s14 : sI (x2 - 24) = (x2 - 24) := sIo (by omega) (by omega)
    refine wL2_of (fun x15 x16 M17 => BN wC M17 ∧ (∀ j9 : Nat, ¬ (82 ≤ j9 ∧ j9 ≤ 85) → M17 j9 = M j9) ∧ (0 ≤ x15 ∧ x15 ≤ 1000000) ∧ (1 ≤ x16 ∧ x16 ≤ 1000000) ∧ (x15 ≤ 50 * x2 + x16) ∧ (x2 - 24 ≤ x16) ∧ (x16 ≤ x2) ∧ (M17 82 1 = M 82 1) ∧ True) (fun x15 x16 M17 => (100 - x16).toNat) ⟨hB4, hF5, (by omega), (by omega), (by omega), (by omega), (by omega), (by omega), trivial⟩ (fun K x15 x16 M17 h26 k27 => ?_)
    obtain ⟨hB18, hF19, i20, i21, i22, i23, i24, i25, -⟩ := h26
    have s28 : sI x16 = x16 := sIo (by omega) (by omega)
    have s29 : sI (x2 - x16) = (x2 - x16) := sIo (by omega) (by omega)
    refine ⟨fun c30 => ?_, fun c30 => ?_⟩
    · skip
      exact k11 _ _ _ ⟨hB18, hF19, (by omega), (by omega), (by omega), (by omega), trivial⟩ (by omega)
    · skip
      refine sC_OldTape_pairFits hB18 (by omega) (by omega) (fun z31 M32 h33 => ?_)
      obtain ⟨hB34, f35, p36, p37, -⟩ := h33
      have hF38 : ∀ j9 : Nat, ¬ (82 ≤ j9 ∧ j9 ≤ 85) → M32 j9 = M j9 := fun j9 h9 => ((f35 j9 (by omega)).trans (hF19 j9 h9))
      refine ⟨fun c39 => ?_, fun c39 => ?_⟩
      · skip
        exact k27 _ _ _ ⟨hB34, hF38, (by omega), (by omega), (by omega), (by omega), (by omega), (by omega), trivial⟩ (by omega)
      · skip
        have s40 : sI x15 = x15 := sIo (by omega) (by omega)
        have s41 : sI a0 = a0 := sIo (by omega) (by omega)
        refine ⟨fun c42 => ?_, fun c42 => ?_⟩
        · skip
          exact k27 _ _ _ ⟨hB34, hF38, (by omega), (by omega), (by omega), (by omega), (by omega), (by omega), trivial⟩ (by omega)
        · skip
          have s43 : sI (((100 * x16) + x2) - x16) = (((100 * x16) + x2) - x16) := sIo (by omega) (by omega)
          exact hQ _ _ ⟨hB34, hF38, (by omega), (by omega), (by omega), trivial⟩
set_option maxHeartbeats 4000000 in
set_option maxRecDepth 100000 in
theorem sC_pair {M : zM} {a0 : Int} (hB : BN wC M) (v0 : (-2147483648) ≤ a0 ∧ a0 ≤ 2147483647) {Q : Int → zM → Prop} (hQ : ∀ (z : Int) (M1 : zM), BN wC M1 ∧ (∀ j9 : Nat, ¬ (82 ≤ j9 ∧ j9 ≤ 85) → M1 j9 = M j9) ∧ ((-2147483648) ≤ z ∧ z ≤ 2147483647) ∧ (M1 82 1 = M 82 1) ∧ True → Q z M1) : wC_pair a0 M Q := by
  unfold wC_pair
  have hF0 : ∀ j9 : Nat, ¬ (82 ≤ j9 ∧ j9 ≤ 85) → M j9 = M j9 := fun j9 _ => rfl
  refine sC_OldTape_pairNumber hB (by omega) (fun z1 M2 h3 => ?_)
  obtain ⟨hB4, f5, p6, p7, p8, -⟩ := h3
  have hF9 : ∀ j9 : Nat, ¬ (82 ≤ j9 ∧ j9 ≤ 85) → M2 j9 = M j9 := fun j9 h9 => ((f5 j9 (by omega)).trans (hF0 j9 h9))
  exact hQ _ _ ⟨hB4, hF9, (by omega), (by omega), trivial⟩
set_option maxHeartbeats 4000000 in
set_option maxRecDepth 100000 in
theorem sC_OldTape_mendedAt {M : zM} {a0 : Int} (hB : BN wC M) (v0 : (-2147483648) ≤ a0 ∧ a0 ≤ 2147483647) {Q : Int → zM → Prop} (hQ : ∀ (z : Int) (M1 : zM), BN wC M1 ∧ (∀ j9 : Nat, ¬ (82 ≤ j9 ∧ j9 ≤ 85) → M1 j9 = M j9) ∧ ((-2147483648) ≤ z ∧ z ≤ 2147483647) ∧ (M1 82 1 = M 82 1) ∧ True → Q z M1) : wC_OldTape_mendedAt a0 M Q := by
  unfold wC_OldTape_mendedAt
  have hF0 : ∀ j9 : Nat, ¬ (82 ≤ j9 ∧ j9 ≤ 85) → M j9 = M j9 := fun j9 _ => rfl
  have s1 : sI a0 = a0 := sIo (by omega) (by omega)
  refine ⟨fun c2 => ?_, fun c2 => ?_⟩
  · skip
    exact hQ _ _ ⟨hB, hF0, (by omega), (by omega), trivial⟩
  · skip
    have q3 : 0 ≤ (M 82 1) ∧ (M 82 1) ≤ 60 := BN.at hB (rfl : zcd wC 82 = 34) rfl
    have s4 : sI (M 82 1) = (M 82 1) := sIo (by omega) (by omega)
    refine ⟨fun c5 => ?_, fun c5 => ?_⟩
    · skip
      refine sC_OldTape_pairNumber hB (by omega) (fun z6 M7 h8 => ?_)
      obtain ⟨hB9, f10, p11, p12, p13, -⟩ := h8
      have hF14 : ∀ j9 : Nat, ¬ (82 ≤ j9 ∧ j9 ≤ 85) → M7 j9 = M j9 := fun j9 h9 => ((f10 j9 (by omega)).trans (hF0 j9 h9))
      refine ⟨fun c15 => ?_, fun c15 => ?_⟩
      · skip
        have q16 : (z6.tdiv 100) = z6 / 100 := Int.tdiv_eq_ediv_of_nonneg (by omega)
        refine sC_by hB9 (by omega) (fun z17  h18 => ?_)
        obtain ⟨p19, p20, p21, -⟩ := h18
        have o22 : 0 ≤ z17 ∧ z17 < 24 := by omega
        refine ⟨o22, ?_⟩
        have q23 : (-2147483648) ≤ (M7 84 z17.toNat) ∧ (M7 84 z17.toNat) ≤ 2147483647 := BN.at hB9 (rfl : zcd wC 84 = 36) rfl
        have q24 : (z6.tmod 100) = z6 % 100 := Int.tmod_eq_emod_of_nonneg (by omega)
        refine sC_by hB9 (by omega) (fun z25  h26 => ?_)
        obtain ⟨p27, p28, p29, -⟩ := h26
        have o30 : 0 ≤ z25 ∧ z25 < 24 := by omega
        refine ⟨o30, ?_⟩
        have q31 : (-2147483648) ≤ (M7 85 z25.toNat) ∧ (M7 85 z25.toNat) ≤ 2147483647 := BN.at hB9 (rfl : zcd wC 85 = 37) rfl
        have q32 := orI_R (M7 84 z17.toNat) (M7 85 z25.toNat)
        exact hQ _ _ ⟨hB9, hF14, (by omega), (by omega), trivial⟩
      · skip
        exact hQ _ _ ⟨hB9, hF14, (by omega), (by omega), trivial⟩
    · skip
      exact hQ _ _ ⟨hB, hF0, (by omega), (by omega), trivial⟩
set_option maxHeartbeats 4000000 in
set_option maxRecDepth 100000 in
theorem sC_mended {M : zM} {a0 : Int} (hB : BN wC M) (v0 : (-2147483648) ≤ a0 ∧ a0 ≤ 2147483647) {Q : Int → zM → Prop} (hQ : ∀ (z : Int) (M1 : zM), BN wC M1 ∧ (∀ j9 : Nat, ¬ (82 ≤ j9 ∧ j9 ≤ 85) → M1 j9 = M j9) ∧ ((-2147483648) ≤ z ∧ z ≤ 2147483647) ∧ (M1 82 1 = M 82 1) ∧ True → Q z M1) : wC_mended a0 M Q := by
  unfold wC_mended
  have hF0 : ∀ j9 : Nat, ¬ (82 ≤ j9 ∧ j9 ≤ 85) → M j9 = M j9 := fun j9 _ => rfl
  refine sC_OldTape_mendedAt hB (by omega) (fun z1 M2 h3 => ?_)
  obtain ⟨hB4, f5, p6, p7, -⟩ := h3
  have hF8 : ∀ j9 : Nat, ¬ (82 ≤ j9 ∧ j9 ≤ 85) → M2 j9 = M j9 := fun j9 h9 => ((f5 j9 (by omega)).trans (hF0 j9 h9))
  exact hQ _ _ ⟨hB4, hF8, (by omega), (by omega), trivial⟩
set_option maxHeartbeats 4000000 in
set_option maxRecDepth 100000 in
theorem sC_burn {M : zM}  (hB : BN wC M)  {Q : Int → zM → Prop} (hQ : ∀ (z : Int) (M1 : zM), BN wC M1 ∧ (∀ j9 : Nat, ¬ (86 ≤ j9 ∧ j9 ≤ 95) → M1 j9 = M j9) ∧ ((-2147483648) ≤ z ∧ z ≤ 2147483647) ∧ (z = M 86 0 ∧ M1 86 0 = 0) ∧ True → Q z M1) : wC_burn  M Q := by
  unfold wC_burn
  have hF0 : ∀ j9 : Nat, ¬ (86 ≤ j9 ∧ j9 ≤ 95) → M j9 = M j9 := fun j9 _ => rfl
  have q1 : 0 ≤ (M 86 0) ∧ (M 86 0) ≤ 5 := BN.at hB (rfl : zcd wC 86 = 38) rfl
  intro M2 e3
  have hB4 : BN wC M2 := by rw [e3]; exact BN.up hB (rfl : zcd wC 86 = 38) rfl (by omega) (by omega)
  have hF5 : ∀ j9 : Nat, ¬ (86 ≤ j9 ∧ j9 ≤ 95) → M2 j9 = M j9 := fun j9 h9 => by rw [e3]; exact (zup_row _ _ (by omega)).trans (hF0 j9 h9)
  have r6 : M2 86 0 = 0 := by rw [e3]; exact zup_s _ _ _ _
  have s7 : sI (M 86 0) = (M 86 0) := sIo (by omega) (by omega)
  exact hQ _ _ ⟨hB4, hF5, (by omega), (by omega), trivial⟩
set_option maxHeartbeats 4000000 in
set_option maxRecDepth 100000 in
theorem sC_Versions_add {M : zM} {a0 : Nat} {a1 : Int} {a2 : Int} (hB : BN wC M) (lt_a0 : a0 < nC) (cd_a0 : zcd wC a0 = 6) (v1 : (-2147483648) ≤ a1 ∧ a1 ≤ 2147483647) (v2 : (-2147483648) ≤ a2 ∧ a2 ≤ 2147483647) (p0 : a0 ≤ 60) {Q : Int → zM → Prop} (hQ : ∀ (z : Int) (M1 : zM), BN wC M1 ∧ (∀ j9 : Nat, ¬ (96 ≤ j9 ∧ j9 ≤ 132) → M1 j9 = M j9) ∧ ((-2147483648) ≤ z ∧ z ≤ 2147483647) ∧ True → Q z M1) : wC_Versions_add a0 a1 a2 M Q := by
  unfold wC_Versions_add
  have hF0 : ∀ j9 : Nat, ¬ (96 ≤ j9 ∧ j9 ≤ 132) → M j9 = M j9 := fun j9 _ => rfl
  obtain ⟨lt1, cd2⟩ := nx_strip a0 lt_a0 cd_a0
  have q3 : 0 ≤ (M 96 0) ∧ (M 96 0) ≤ 16 := BN.at hB (rfl : zcd wC 96 = 44) rfl
  have s4 : sI (M 96 0) = (M 96 0) := sIo (by omega) (by omega)
  refine ⟨fun c5 => ?_, fun c5 => ?_⟩
  · skip
    exact hQ _ _ ⟨hB, hF0, (by omega), trivial⟩
  · skip
    refine pJ0_dup ?_
    refine ⟨fun c7 => ?_, fun c7 => ?_⟩
    · skip
      have o9 : 0 ≤ (sI (M 96 0)) ∧ (sI (M 96 0)) < 16 := by omega
      refine ⟨o9, ?_⟩
      obtain ⟨lt10, cd11⟩ : (101 + 2 * (sI (M 96 0)).toNat) < nC ∧ zcd wC (101 + 2 * (sI (M 96 0)).toNat) = 6 := (by decide : ∀ k : Nat, k < 16 → (101 + 2 * k) < nC ∧ zcd wC (101 + 2 * k) = 6) (sI (M 96 0)).toNat (by omega)
      obtain ⟨lt12, cd13⟩ := nx_strip (101 + 2 * (sI (M 96 0)).toNat) lt10 cd11
      refine sC_Strip_copy hB lt10 cd11 lt_a0 cd_a0 (by omega) (fun  M14 h15 => ?_)
      obtain ⟨hB16, f17, -⟩ := h15
      have hF18 : ∀ j9 : Nat, ¬ (96 ≤ j9 ∧ j9 ≤ 132) → M14 j9 = M j9 := fun j9 h9 => ((f17 j9 (by omega)).trans (hF0 j9 h9))
      have r19 : M14 96 0 = M 96 0 := congrFun (f17 96 (by omega)) 0
      have q20 : 0 ≤ (M14 96 0) ∧ (M14 96 0) ≤ 16 := BN.at hB16 (rfl : zcd wC 96 = 44) rfl
      have s21 : sI (M14 96 0) = (M14 96 0) := sIo (by omega) (by omega)
      have o22 : 0 ≤ (sI (M14 96 0)) ∧ (sI (M14 96 0)) < 16 := by omega
      refine ⟨o22, ?_⟩
      intro M23 e24
      have hB25 : BN wC M23 := by rw [e24]; exact BN.up hB16 (rfl : zcd wC 98 = 46) rfl (by omega) (by omega)
      have hF26 : ∀ j9 : Nat, ¬ (96 ≤ j9 ∧ j9 ≤ 132) → M23 j9 = M j9 := fun j9 h9 => by rw [e24]; exact (zup_row _ _ (by omega)).trans (hF18 j9 h9)
      have r27 : M23 96 0 = M14 96 0 := by rw [e24]; exact zup_n _ _ (by omega)
      have q28 : 0 ≤ (M23 96 0) ∧ (M23 96 0) ≤ 16 := BN.at hB25 (rfl : zcd wC 96 = 44) rfl
      have s29 : sI (M23 96 0) = (M23 96 0) := sIo (by omega) (by omega)
      have o30 : 0 ≤ (sI (M23 96 0)) ∧ (sI (M23 96 0)) < 16 := by omega
      refine ⟨o30, ?_⟩
      intro M31 e32
      have hB33 : BN wC M31 := by rw [e32]; exact BN.up hB25 (rfl : zcd wC 99 = 47) rfl (by omega) (by omega)
      have hF34 : ∀ j9 : Nat, ¬ (96 ≤ j9 ∧ j9 ≤ 132) → M31 j9 = M j9 := fun j9 h9 => by rw [e32]; exact (zup_row _ _ (by omega)).trans (hF26 j9 h9)
      have r35 : M31 96 0 = M23 96 0 := by rw [e32]; exact zup_n _ _ (by omega)
      have q36 : 0 ≤ (M31 96 0) ∧ (M31 96 0) ≤ 16 := BN.at hB33 (rfl : zcd wC 96 = 44) rfl
      intro M37 e38
      have hB39 : BN wC M37 := by rw [e38]; exact BN.up hB33 (rfl : zcd wC 96 = 44) rfl (by omega) (by omega)
      have hF40 : ∀ j9 : Nat, ¬ (96 ≤ j9 ∧ j9 ≤ 132) → M37 j9 = M j9 := fun j9 h9 => by rw [e38]; exact (zup_row _ _ (by omega)).trans (hF34 j9 h9)
      have r41 : M37 96 0 = ((M31 96 0) + 1) := by rw [e38]; exact zup_s _ _ _ _
      have q42 : 0 ≤ (M37 96 0) ∧ (M37 96 0) ≤ 16 := BN.at hB39 (rfl : zcd wC 96 = 44) rfl
      have s43 : sI ((M37 96 0) - 1) = ((M37 96 0) - 1) := sIo (by omega) (by omega)
      exact hQ _ _ ⟨hB39, hF40, (by omega), trivial⟩
    · skip
      have s45 : sI ((M 96 0) - 1) = ((M 96 0) - 1) := sIo (by omega) (by omega)
      have o46 : 0 ≤ (sI ((M 96 0) - 1)) ∧ (sI ((M 96 0) - 1)) < 16 := by omega
      refine ⟨o46, ?_⟩
      have q47 : (-2147483648) ≤ (M 99 (sI ((M 96 0) - 1)).toNat) ∧ (M 99 (sI ((M 96 0) - 1)).toNat) ≤ 2147483647 := BN.at hB (rfl : zcd wC 99 = 47) rfl
      have s48 : sI a2 = a2 := sIo (by omega) (by omega)
      have s49 : sI (M 99 (sI ((M 96 0) - 1)).toNat) = (M 99 (sI ((M 96 0) - 1)).toNat) := sIo (by omega) (by omega)
      refine ⟨fun c50 => ?_, fun c50 => ?_⟩
      · skip
        have o52 : 0 ≤ (sI (M 96 0)) ∧ (sI (M 96 0)) < 16 := by omega
        refine ⟨o52, ?_⟩
        obtain ⟨lt53, cd54⟩ : (101 + 2 * (sI (M 96 0)).toNat) < nC ∧ zcd wC (101 + 2 * (sI (M 96 0)).toNat) = 6 := (by decide : ∀ k : Nat, k < 16 → (101 + 2 * k) < nC ∧ zcd wC (101 + 2 * k) = 6) (sI (M 96 0)).toNat (by omega)
        obtain ⟨lt55, cd56⟩ := nx_strip (101 + 2 * (sI (M 96 0)).toNat) lt53 cd54
        refine sC_Strip_copy hB lt53 cd54 lt_a0 cd_a0 (by omega) (fun  M57 h58 => ?_)
        obtain ⟨hB59, f60, -⟩ := h58
        have hF61 : ∀ j9 : Nat, ¬ (96 ≤ j9 ∧ j9 ≤ 132) → M57 j9 = M j9 := fun j9 h9 => ((f60 j9 (by omega)).trans (hF0 j9 h9))
        have r62 : M57 96 0 = M 96 0 := congrFun (f60 96 (by omega)) 0
        have q63 : 0 ≤ (M57 96 0) ∧ (M57 96 0) ≤ 16 := BN.at hB59 (rfl : zcd wC 96 = 44) rfl
        have s64 : sI (M57 96 0) = (M57 96 0) := sIo (by omega) (by omega)
        have o65 : 0 ≤ (sI (M57 96 0)) ∧ (sI (M57 96 0)) < 16 := by omega
        refine ⟨o65, ?_⟩
        intro M66 e67
        have hB68 : BN wC M66 := by rw [e67]; exact BN.up hB59 (rfl : zcd wC 98 = 46) rfl (by omega) (by omega)
        have hF69 : ∀ j9 : Nat, ¬ (96 ≤ j9 ∧ j9 ≤ 132) → M66 j9 = M j9 := fun j9 h9 => by rw [e67]; exact (zup_row _ _ (by omega)).trans (hF61 j9 h9)
        have r70 : M66 96 0 = M57 96 0 := by rw [e67]; exact zup_n _ _ (by omega)
        have q71 : 0 ≤ (M66 96 0) ∧ (M66 96 0) ≤ 16 := BN.at hB68 (rfl : zcd wC 96 = 44) rfl
        have s72 : sI (M66 96 0) = (M66 96 0) := sIo (by omega) (by omega)
        have o73 : 0 ≤ (sI (M66 96 0)) ∧ (sI (M66 96 0)) < 16 := by omega
        refine ⟨o73, ?_⟩
        intro M74 e75
        have hB76 : BN wC M74 := by rw [e75]; exact BN.up hB68 (rfl : zcd wC 99 = 47) rfl (by omega) (by omega)
        have hF77 : ∀ j9 : Nat, ¬ (96 ≤ j9 ∧ j9 ≤ 132) → M74 j9 = M j9 := fun j9 h9 => by rw [e75]; exact (zup_row _ _ (by omega)).trans (hF69 j9 h9)
        have r78 : M74 96 0 = M66 96 0 := by rw [e75]; exact zup_n _ _ (by omega)
        have q79 : 0 ≤ (M74 96 0) ∧ (M74 96 0) ≤ 16 := BN.at hB76 (rfl : zcd wC 96 = 44) rfl
        intro M80 e81
        have hB82 : BN wC M80 := by rw [e81]; exact BN.up hB76 (rfl : zcd wC 96 = 44) rfl (by omega) (by omega)
        have hF83 : ∀ j9 : Nat, ¬ (96 ≤ j9 ∧ j9 ≤ 132) → M80 j9 = M j9 := fun j9 h9 => by rw [e81]; exact (zup_row _ _ (by omega)).trans (hF77 j9 h9)
        have r84 : M80 96 0 = ((M74 96 0) + 1) := by rw [e81]; exact zup_s _ _ _ _
        have q85 : 0 ≤ (M80 96 0) ∧ (M80 96 0) ≤ 16 := BN.at hB82 (rfl : zcd wC 96 = 44) rfl
        have s86 : sI ((M80 96 0) - 1) = ((M80 96 0) - 1) := sIo (by omega) (by omega)
        exact hQ _ _ ⟨hB82, hF83, (by omega), trivial⟩
      · skip
        exact hQ _ _ ⟨hB, hF0, (by omega), trivial⟩
set_option maxHeartbeats 4000000 in
set_option maxRecDepth 100000 in
theorem sC_keep {M : zM} {a0 : Int} {a1 : Int} (hB : BN wC M) (v0 : (-2147483648) ≤ a0 ∧ a0 ≤ 2147483647) (v1 : (-2147483648) ≤ a1 ∧ a1 ≤ 2147483647) {Q : Int → zM → Prop} (hQ : ∀ (z : Int) (M1 : zM), BN wC M1 ∧ (∀ j9 : Nat, ¬ (96 ≤ j9 ∧ j9 ≤ 132) → M1 j9 = M j9) ∧ ((-2147483648) ≤ z ∧ z ≤ 2147483647) ∧ True → Q z M1) : wC_keep a0 a1 M Q := by
  unfold wC_keep
  have hF0 : ∀ j9 : Nat, ¬ (96 ≤ j9 ∧ j9 ≤ 132) → M j9 = M j9 := fun j9 _ => rfl
  refine sC_Studio_find hB (by omega) (fun h2 => ?_) (fun q1 h2 => ?_)
  · skip
    refine ⟨fun _ => ?_, fun q9 h9 => nomatch h9⟩
    exact hQ _ _ ⟨hB, hF0, (by omega), trivial⟩
  · skip
    refine ⟨(fun h9 => nomatch h9), fun q9 h9 => ?_⟩
    obtain rfl := Option.some.inj h9
    obtain ⟨⟨lt3, cd4⟩, h2⟩ := h2
    refine ⟨⟨lt3, cd4⟩, ?_⟩
    obtain ⟨lt5, cd6, lt7, cd8, lt9, cd10⟩ := nx_ring q1 lt3 cd4
    refine sC_within hB (by omega) (by omega) (by omega) (fun z11  h12 => ?_)
    obtain ⟨p13, p14, -⟩ := h12
    refine ⟨fun c15 => ?_, fun c15 => ?_⟩
    · skip
      refine sC_Versions_add hB lt5 cd6 (by omega) (by omega) (by omega) (fun z16 M17 h18 => ?_)
      obtain ⟨hB19, f20, p21, -⟩ := h18
      have hF22 : ∀ j9 : Nat, ¬ (96 ≤ j9 ∧ j9 ≤ 132) → M17 j9 = M j9 := fun j9 h9 => ((f20 j9 (by omega)).trans (hF0 j9 h9))
      exact hQ _ _ ⟨hB19, hF22, (by omega), trivial⟩
    · skip
      exact hQ _ _ ⟨hB, hF0, (by omega), trivial⟩
set_option maxHeartbeats 4000000 in
set_option maxRecDepth 100000 in
theorem sC_Versions_latest {M : zM} {a0 : Int} {a1 : Int} (hB : BN wC M) (v0 : (-2147483648) ≤ a0 ∧ a0 ≤ 2147483647) (v1 : (-2147483648) ≤ a1 ∧ a1 ≤ 2147483647) {Q : Int → Prop} (hQ : ∀ (z : Int), ((-2147483648) ≤ z ∧ z ≤ 2147483647) ∧ True → Q z) : wC_Versions_latest a0 a1 M Q := by
  unfold wC_Versions_latest
  have q1 : 0 ≤ (M 96 0) ∧ (M 96 0) ≤ 16 := BN.at hB (rfl : zcd wC 96 = 44) rfl
  refine pL1_of (fun x2 => ((-1) ≤ x2 ∧ x2 ≤ 15) ∧ True) (fun x2 => (x2 + 1).toNat) ⟨(by omega), trivial⟩ (fun K x2 h4 k5 => ?_)
  obtain ⟨i3, -⟩ := h4
  have s6 : sI x2 = x2 := sIo (by omega) (by omega)
  refine ⟨fun c7 => ?_, fun c7 => ?_⟩
  · skip
    exact hQ _ ⟨(by omega), trivial⟩
  · skip
    have o8 : 0 ≤ (sI x2) ∧ (sI x2) < 16 := by omega
    refine ⟨o8, ?_⟩
    have q9 : (-2147483648) ≤ (M 98 (sI x2).toNat) ∧ (M 98 (sI x2).toNat) ≤ 2147483647 := BN.at hB (rfl : zcd wC 98 = 46) rfl
    have s10 : sI (M 98 (sI x2).toNat) = (M 98 (sI x2).toNat) := sIo (by omega) (by omega)
    have s11 : sI a0 = a0 := sIo (by omega) (by omega)
    refine ⟨fun c12 => ?_, fun c12 => ?_⟩
    · skip
      exact k5 _ ⟨(by omega), trivial⟩ (by omega)
    · skip
      have o13 : 0 ≤ (sI x2) ∧ (sI x2) < 16 := by omega
      refine ⟨o13, ?_⟩
      have q14 : (-2147483648) ≤ (M 99 (sI x2).toNat) ∧ (M 99 (sI x2).toNat) ≤ 2147483647 := BN.at hB (rfl : zcd wC 99 = 47) rfl
      have s15 : sI (M 99 (sI x2).toNat) = (M 99 (sI x2).toNat) := sIo (by omega) (by omega)
      have s16 : sI a1 = a1 := sIo (by omega) (by omega)
      refine ⟨fun c17 => ?_, fun c17 => ?_⟩
      · skip
        exact k5 _ ⟨(by omega), trivial⟩ (by omega)
      · skip
        exact hQ _ ⟨(by omega), trivial⟩
set_option maxHeartbeats 4000000 in
set_option maxRecDepth 100000 in
theorem sC_known {M : zM} {a0 : Int} {a1 : Int} (hB : BN wC M) (v0 : (-2147483648) ≤ a0 ∧ a0 ≤ 2147483647) (v1 : (-2147483648) ≤ a1 ∧ a1 ≤ 2147483647) {Q : Int → Prop} (hQ : ∀ (z : Int), ((-2147483648) ≤ z ∧ z ≤ 2147483647) ∧ True → Q z) : wC_known a0 a1 M Q := by
  unfold wC_known
  refine sC_Versions_latest hB (by omega) (by omega) (fun z1  h2 => ?_)
  obtain ⟨p3, -⟩ := h2
  exact hQ _ ⟨(by omega), trivial⟩
theorem sC_Versions_find {M : zM} {a0 : Int} (hB : BN wC M) (v0 : -2147483648 ≤ a0 ∧ a0 ≤ 2147483647) {Q : Option Nat → Prop} (hn : (a0 < 0 ∨ M 96 0 ≤ a0) → Q none) (hs : ∀ q, ((q < nC ∧ zcd wC q = 6) ∧ (q = 101 + 2 * a0.toNat ∧ 0 ≤ a0 ∧ a0 < M 96 0 ∧ a0 < 16)) → Q (some q)) : wC_Versions_find a0 M Q := by
  unfold wC_Versions_find
  have b : 0 ≤ M 96 0 ∧ M 96 0 ≤ 16 := BN.at hB (rfl : zcd wC 96 = 44) rfl
  have s1 : sI a0 = a0 := sIo (by omega) (by omega)
  have s2 : sI (M 96 0) = M 96 0 := sIo (by omega) (by omega)
  rw [s1, s2]
  refine ⟨fun c => hn (by omega), fun c => ⟨fun c2 => hn (by omega), fun c2 => ⟨fun c3 => absurd c3 (by omega), fun c3 => ⟨by omega, ?_⟩⟩⟩⟩
  exact hs _ ⟨(by decide : ∀ k : Nat, k < 16 → 101 + 2 * k < nC ∧ zcd wC (101 + 2 * k) = 6) _ (by omega), rfl, c, c2, c3⟩
set_option maxHeartbeats 4000000 in
set_option maxRecDepth 100000 in
theorem sC_fetch {M : zM} {a0 : Int} (hB : BN wC M) (v0 : (-2147483648) ≤ a0 ∧ a0 ≤ 2147483647) {Q : Int → zM → Prop} (hQ : ∀ (z : Int) (M1 : zM), BN wC M1 ∧ (∀ j9 : Nat, ¬ (30 ≤ j9 ∧ j9 ≤ 31) → M1 j9 = M j9) ∧ ((-2147483648) ≤ z ∧ z ≤ 2147483647) ∧ True → Q z M1) : wC_fetch a0 M Q := by
  unfold wC_fetch
  have hF0 : ∀ j9 : Nat, ¬ (30 ≤ j9 ∧ j9 ≤ 31) → M j9 = M j9 := fun j9 _ => rfl
  refine sC_Versions_find hB (by omega) (fun h2 => ?_) (fun q1 h2 => ?_)
  · skip
    refine ⟨fun _ => ?_, fun q9 h9 => nomatch h9⟩
    exact hQ _ _ ⟨hB, hF0, (by omega), trivial⟩
  · skip
    refine ⟨(fun h9 => nomatch h9), fun q9 h9 => ?_⟩
    obtain rfl := Option.some.inj h9
    obtain ⟨⟨lt3, cd4⟩, h2⟩ := h2
    refine ⟨⟨lt3, cd4⟩, ?_⟩
    obtain ⟨lt5, cd6⟩ := nx_strip q1 lt3 cd4
    refine sC_Strip_copy hB (by decide) (rfl : zcd wC 30 = 6) lt3 cd4 (by omega) (fun  M7 h8 => ?_)
    obtain ⟨hB9, f10, -⟩ := h8
    have hF11 : ∀ j9 : Nat, ¬ (30 ≤ j9 ∧ j9 ≤ 31) → M7 j9 = M j9 := fun j9 h9 => ((f10 j9 (by omega)).trans (hF0 j9 h9))
    have q12 : 0 ≤ (M7 30 1) ∧ (M7 30 1) ≤ 24 := BN.at hB9 (rfl : zcd wC 30 = 6) rfl
    have s13 : sI (M7 30 1) = (M7 30 1) := sIo (by omega) (by omega)
    exact hQ _ _ ⟨hB9, hF11, (by omega), trivial⟩
set_option maxHeartbeats 4000000 in
set_option maxRecDepth 100000 in
theorem sC_Versions_editsTurned {M : zM} {a0 : Nat} {a1 : Nat} {a2 : Int} (hB : BN wC M) (lt_a0 : a0 < nC) (cd_a0 : zcd wC a0 = 6) (lt_a1 : a1 < nC) (cd_a1 : zcd wC a1 = 6) (v2 : 0 ≤ a2 ∧ a2 ≤ 1000000) {Q : Int → zM → Prop} (hQ : ∀ (z : Int) (M1 : zM), BN wC M1 ∧ (∀ j9 : Nat, ¬ (j9 = 100) → M1 j9 = M j9) ∧ ((-2147483648) ≤ z ∧ z ≤ 2147483647) ∧ True → Q z M1) : wC_Versions_editsTurned a0 a1 a2 M Q := by
  unfold wC_Versions_editsTurned
  have hF0 : ∀ j9 : Nat, ¬ (j9 = 100) → M j9 = M j9 := fun j9 _ => rfl
  obtain ⟨lt1, cd2⟩ := nx_strip a0 lt_a0 cd_a0
  obtain ⟨lt3, cd4⟩ := nx_strip a1 lt_a1 cd_a1
  refine wL1_of (fun x5 M6 => BN wC M6 ∧ (∀ j9 : Nat, ¬ (j9 = 100) → M6 j9 = M j9) ∧ (0 ≤ x5 ∧ x5 ≤ 1000000) ∧ True) (fun x5 M6 => (1000000 - x5).toNat) ⟨hB, hF0, (by omega), trivial⟩ (fun K x5 M6 h10 k11 => ?_)
  obtain ⟨hB7, hF8, i9, -⟩ := h10
  have q12 : 0 ≤ (M6 a1 1) ∧ (M6 a1 1) ≤ 24 := BN.at hB7 cd_a1 rfl
  have s13 : sI x5 = x5 := sIo (by omega) (by omega)
  have s14 : sI (M6 a1 1) = (M6 a1 1) := sIo (by omega) (by omega)
  refine ⟨fun c15 => ?_, fun c15 => ?_⟩
  · skip
    refine wL1_of (fun x16 M17 => BN wC M17 ∧ (∀ j9 : Nat, ¬ (j9 = 100) → M17 j9 = M j9) ∧ (0 ≤ x16 ∧ x16 ≤ 1000000) ∧ True) (fun x16 M17 => (1000000 - x16).toNat) ⟨hB7, hF8, (by omega), trivial⟩ (fun K x16 M17 h21 k22 => ?_)
    obtain ⟨hB18, hF19, i20, -⟩ := h21
    have q23 : 0 ≤ (M17 a0 1) ∧ (M17 a0 1) ≤ 24 := BN.at hB18 cd_a0 rfl
    have s24 : sI x16 = x16 := sIo (by omega) (by omega)
    have s25 : sI (M17 a0 1) = (M17 a0 1) := sIo (by omega) (by omega)
    refine ⟨fun c26 => ?_, fun c26 => ?_⟩
    · skip
      have q27 : 0 ≤ (M17 a1 1) ∧ (M17 a1 1) ≤ 24 := BN.at hB18 cd_a1 rfl
      have s28 : sI (M17 a1 1) = (M17 a1 1) := sIo (by omega) (by omega)
      have o29 : 0 ≤ (sI (M17 a1 1)) ∧ (sI (M17 a1 1)) < 25 := by omega
      refine ⟨o29, ?_⟩
      have q30 : (-2147483648) ≤ (M17 100 (sI (M17 a1 1)).toNat) ∧ (M17 100 (sI (M17 a1 1)).toNat) ≤ 2147483647 := BN.at hB18 (rfl : zcd wC 100 = 48) rfl
      have s31 : sI (M17 100 (sI (M17 a1 1)).toNat) = (M17 100 (sI (M17 a1 1)).toNat) := sIo (by omega) (by omega)
      exact hQ _ _ ⟨hB18, hF19, (by omega), trivial⟩
    · skip
      have q32 : (-2147483648) ≤ (M17 100 0) ∧ (M17 100 0) ≤ 2147483647 := BN.at hB18 (rfl : zcd wC 100 = 48) rfl
      intro M33 e34
      have hB35 : BN wC M33 := by rw [e34]; exact BN.up hB18 (rfl : zcd wC 100 = 48) rfl (by omega) (by omega)
      have hF36 : ∀ j9 : Nat, ¬ (j9 = 100) → M33 j9 = M j9 := fun j9 h9 => by rw [e34]; exact (zup_row _ _ (by omega)).trans (hF19 j9 h9)
      refine wL2_of (fun x37 x38 M39 => BN wC M39 ∧ (∀ j9 : Nat, ¬ (j9 = 100) → M39 j9 = M j9) ∧ (0 ≤ x38 ∧ x38 ≤ 1000000) ∧ True) (fun x37 x38 M39 => (1000000 - x38).toNat) ⟨hB35, hF36, (by omega), trivial⟩ (fun K x37 x38 M39 h43 k44 => ?_)
      obtain ⟨hB40, hF41, i42, -⟩ := h43
      have q45 : 0 ≤ (M39 a1 1) ∧ (M39 a1 1) ≤ 24 := BN.at hB40 cd_a1 rfl
      have s46 : sI x38 = x38 := sIo (by omega) (by omega)
      have s47 : sI (M39 a1 1) = (M39 a1 1) := sIo (by omega) (by omega)
      refine ⟨fun c48 => ?_, fun c48 => ?_⟩
      · skip
        exact k22 _ _ ⟨hB40, hF41, (by omega), trivial⟩ (by omega)
      · skip
        have s49 : sI x16 = x16 := sIo (by omega) (by omega)
        have o50 : 0 ≤ (sI x16) ∧ (sI x16) < 24 := by omega
        refine ⟨o50, ?_⟩
        have q51 : (-2147483648) ≤ (M39 (a0 + 1) (sI x16).toNat) ∧ (M39 (a0 + 1) (sI x16).toNat) ≤ 2147483647 := BN.at hB40 cd2 rfl
        have s52 : sI (a2 + x38) = (a2 + x38) := sIo (by omega) (by omega)
        refine sC_by hB40 (by omega) (fun z54  h55 => ?_)
        obtain ⟨p56, p57, p58, -⟩ := h55
        have o59 : 0 ≤ z54 ∧ z54 < 24 := by omega
        refine ⟨o59, ?_⟩
        have q60 : (-2147483648) ≤ (M39 (a1 + 1) z54.toNat) ∧ (M39 (a1 + 1) z54.toNat) ≤ 2147483647 := BN.at hB40 cd4 rfl
        have s61 : sI (M39 (a0 + 1) (sI x16).toNat) = (M39 (a0 + 1) (sI x16).toNat) := sIo (by omega) (by omega)
        have s62 : sI (M39 (a1 + 1) z54.toNat) = (M39 (a1 + 1) z54.toNat) := sIo (by omega) (by omega)
        refine pJ1_dup ?_
        refine ⟨fun c63 => ?_, fun c63 => ?_⟩
        · skip
          have s64 : sI 0 = 0 := sIo (by omega) (by omega)
          refine pJ1_dup ?_
          refine ⟨fun c65 => ?_, fun c65 => ?_⟩
          · skip
            have s66 : sI (x38 + 1) = (x38 + 1) := sIo (by omega) (by omega)
            have o67 : 0 ≤ (sI (x38 + 1)) ∧ (sI (x38 + 1)) < 25 := by omega
            refine ⟨o67, ?_⟩
            have q68 : (-2147483648) ≤ (M39 100 (sI (x38 + 1)).toNat) ∧ (M39 100 (sI (x38 + 1)).toNat) ≤ 2147483647 := BN.at hB40 (rfl : zcd wC 100 = 48) rfl
            have o69 : 0 ≤ (sI x38) ∧ (sI x38) < 25 := by omega
            refine ⟨o69, ?_⟩
            have q70 : (-2147483648) ≤ (M39 100 (sI x38).toNat) ∧ (M39 100 (sI x38).toNat) ≤ 2147483647 := BN.at hB40 (rfl : zcd wC 100 = 48) rfl
            have s71 : sI (M39 100 (sI x38).toNat) = (M39 100 (sI x38).toNat) := sIo (by omega) (by omega)
            have s72 : sI (M39 100 (sI (x38 + 1)).toNat) = (M39 100 (sI (x38 + 1)).toNat) := sIo (by omega) (by omega)
            have s73 := sI_R (1 + (min (sI (M39 100 (sI (x38 + 1)).toNat)) (sI (M39 100 (sI x38).toNat))))
            have s74 := sI_R (x37 + 1)
            have o75 : 0 ≤ (sI (x38 + 1)) ∧ (sI (x38 + 1)) < 25 := by omega
            refine ⟨o75, ?_⟩
            intro M76 e77
            have hB78 : BN wC M76 := by rw [e77]; exact BN.up hB40 (rfl : zcd wC 100 = 48) rfl (by omega) (by omega)
            have hF79 : ∀ j9 : Nat, ¬ (j9 = 100) → M76 j9 = M j9 := fun j9 h9 => by rw [e77]; exact (zup_row _ _ (by omega)).trans (hF41 j9 h9)
            exact k44 _ _ _ ⟨hB78, hF79, (by omega), trivial⟩ (by omega)
          · skip
            have s80 : sI (x38 + 1) = (x38 + 1) := sIo (by omega) (by omega)
            have o81 : 0 ≤ (sI (x38 + 1)) ∧ (sI (x38 + 1)) < 25 := by omega
            refine ⟨o81, ?_⟩
            have q82 : (-2147483648) ≤ (M39 100 (sI (x38 + 1)).toNat) ∧ (M39 100 (sI (x38 + 1)).toNat) ≤ 2147483647 := BN.at hB40 (rfl : zcd wC 100 = 48) rfl
            have o83 : 0 ≤ (sI x38) ∧ (sI x38) < 25 := by omega
            refine ⟨o83, ?_⟩
            have q84 : (-2147483648) ≤ (M39 100 (sI x38).toNat) ∧ (M39 100 (sI x38).toNat) ≤ 2147483647 := BN.at hB40 (rfl : zcd wC 100 = 48) rfl
            have s85 : sI (M39 100 (sI x38).toNat) = (M39 100 (sI x38).toNat) := sIo (by omega) (by omega)
            have s86 : sI (M39 100 (sI (x38 + 1)).toNat) = (M39 100 (sI (x38 + 1)).toNat) := sIo (by omega) (by omega)
            have s87 := sI_R (1 + (min (sI (M39 100 (sI (x38 + 1)).toNat)) (sI (M39 100 (sI x38).toNat))))
            have s88 := sI_R x37
            have o89 : 0 ≤ (sI (x38 + 1)) ∧ (sI (x38 + 1)) < 25 := by omega
            refine ⟨o89, ?_⟩
            intro M90 e91
            have hB92 : BN wC M90 := by rw [e91]; exact BN.up hB40 (rfl : zcd wC 100 = 48) rfl (by omega) (by omega)
            have hF93 : ∀ j9 : Nat, ¬ (j9 = 100) → M90 j9 = M j9 := fun j9 h9 => by rw [e91]; exact (zup_row _ _ (by omega)).trans (hF41 j9 h9)
            exact k44 _ _ _ ⟨hB92, hF93, (by omega), trivial⟩ (by omega)
        · skip
          have s94 : sI 1 = 1 := sIo (by omega) (by omega)
          refine pJ1_dup ?_
          refine ⟨fun c95 => ?_, fun c95 => ?_⟩
          · skip
            have s96 : sI (x38 + 1) = (x38 + 1) := sIo (by omega) (by omega)
            have o97 : 0 ≤ (sI (x38 + 1)) ∧ (sI (x38 + 1)) < 25 := by omega
            refine ⟨o97, ?_⟩
            have q98 : (-2147483648) ≤ (M39 100 (sI (x38 + 1)).toNat) ∧ (M39 100 (sI (x38 + 1)).toNat) ≤ 2147483647 := BN.at hB40 (rfl : zcd wC 100 = 48) rfl
            have o99 : 0 ≤ (sI x38) ∧ (sI x38) < 25 := by omega
            refine ⟨o99, ?_⟩
            have q100 : (-2147483648) ≤ (M39 100 (sI x38).toNat) ∧ (M39 100 (sI x38).toNat) ≤ 2147483647 := BN.at hB40 (rfl : zcd wC 100 = 48) rfl
            have s101 : sI (M39 100 (sI x38).toNat) = (M39 100 (sI x38).toNat) := sIo (by omega) (by omega)
            have s102 : sI (M39 100 (sI (x38 + 1)).toNat) = (M39 100 (sI (x38 + 1)).toNat) := sIo (by omega) (by omega)
            have s103 := sI_R (1 + (min (sI (M39 100 (sI (x38 + 1)).toNat)) (sI (M39 100 (sI x38).toNat))))
            have s104 := sI_R (x37 + 1)
            have o105 : 0 ≤ (sI (x38 + 1)) ∧ (sI (x38 + 1)) < 25 := by omega
            refine ⟨o105, ?_⟩
            intro M106 e107
            have hB108 : BN wC M106 := by rw [e107]; exact BN.up hB40 (rfl : zcd wC 100 = 48) rfl (by omega) (by omega)
            have hF109 : ∀ j9 : Nat, ¬ (j9 = 100) → M106 j9 = M j9 := fun j9 h9 => by rw [e107]; exact (zup_row _ _ (by omega)).trans (hF41 j9 h9)
            exact k44 _ _ _ ⟨hB108, hF109, (by omega), trivial⟩ (by omega)
          · skip
            have s110 : sI (x38 + 1) = (x38 + 1) := sIo (by omega) (by omega)
            have o111 : 0 ≤ (sI (x38 + 1)) ∧ (sI (x38 + 1)) < 25 := by omega
            refine ⟨o111, ?_⟩
            have q112 : (-2147483648) ≤ (M39 100 (sI (x38 + 1)).toNat) ∧ (M39 100 (sI (x38 + 1)).toNat) ≤ 2147483647 := BN.at hB40 (rfl : zcd wC 100 = 48) rfl
            have o113 : 0 ≤ (sI x38) ∧ (sI x38) < 25 := by omega
            refine ⟨o113, ?_⟩
            have q114 : (-2147483648) ≤ (M39 100 (sI x38).toNat) ∧ (M39 100 (sI x38).toNat) ≤ 2147483647 := BN.at hB40 (rfl : zcd wC 100 = 48) rfl
            have s115 : sI (M39 100 (sI x38).toNat) = (M39 100 (sI x38).toNat) := sIo (by omega) (by omega)
            have s116 : sI (M39 100 (sI (x38 + 1)).toNat) = (M39 100 (sI (x38 + 1)).toNat) := sIo (by omega) (by omega)
            have s117 := sI_R (1 + (min (sI (M39 100 (sI (x38 + 1)).toNat)) (sI (M39 100 (sI x38).toNat))))
            have s118 := sI_R x37
            have o119 : 0 ≤ (sI (x38 + 1)) ∧ (sI (x38 + 1)) < 25 := by omega
            refine ⟨o119, ?_⟩
            intro M120 e121
            have hB122 : BN wC M120 := by rw [e121]; exact BN.up hB40 (rfl : zcd wC 100 = 48) rfl (by omega) (by omega)
            have hF123 : ∀ j9 : Nat, ¬ (j9 = 100) → M120 j9 = M j9 := fun j9 h9 => by rw [e121]; exact (zup_row _ _ (by omega)).trans (hF41 j9 h9)
            exact k44 _ _ _ ⟨hB122, hF123, (by omega), trivial⟩ (by omega)
  · skip
    have o124 : 0 ≤ (sI x5) ∧ (sI x5) < 25 := by omega
    refine ⟨o124, ?_⟩
    intro M125 e126
    have hB127 : BN wC M125 := by rw [e126]; exact BN.up hB7 (rfl : zcd wC 100 = 48) rfl (by omega) (by omega)
    have hF128 : ∀ j9 : Nat, ¬ (j9 = 100) → M125 j9 = M j9 := fun j9 h9 => by rw [e126]; exact (zup_row _ _ (by omega)).trans (hF8 j9 h9)
    exact k11 _ _ ⟨hB127, hF128, (by omega), trivial⟩ (by omega)
set_option maxHeartbeats 4000000 in
set_option maxRecDepth 100000 in
theorem sC_Versions_fewestEdits {M : zM} {a0 : Nat} {a1 : Nat} (hB : BN wC M) (lt_a0 : a0 < nC) (cd_a0 : zcd wC a0 = 6) (lt_a1 : a1 < nC) (cd_a1 : zcd wC a1 = 6) {Q : Int → zM → Prop} (hQ : ∀ (z : Int) (M1 : zM), BN wC M1 ∧ (∀ j9 : Nat, ¬ (j9 = 100) → M1 j9 = M j9) ∧ ((-2147483648) ≤ z ∧ z ≤ 2147483647) ∧ True → Q z M1) : wC_Versions_fewestEdits a0 a1 M Q := by
  unfold wC_Versions_fewestEdits
  have hF0 : ∀ j9 : Nat, ¬ (j9 = 100) → M j9 = M j9 := fun j9 _ => rfl
  obtain ⟨lt1, cd2⟩ := nx_strip a0 lt_a0 cd_a0
  obtain ⟨lt3, cd4⟩ := nx_strip a1 lt_a1 cd_a1
  have q5 : 0 ≤ (M a0 1) ∧ (M a0 1) ≤ 24 := BN.at hB cd_a0 rfl
  have q6 : 0 ≤ (M a1 1) ∧ (M a1 1) ≤ 24 := BN.at hB cd_a1 rfl
  have s7 : sI (M a1 1) = (M a1 1) := sIo (by omega) (by omega)
  have s8 : sI (M a0 1) = (M a0 1) := sIo (by omega) (by omega)
  refine wL2_of (fun x9 x10 M11 => BN wC M11 ∧ (∀ j9 : Nat, ¬ (j9 = 100) → M11 j9 = M j9) ∧ (0 ≤ x10 ∧ x10 ≤ 1000000) ∧ True) (fun x9 x10 M11 => (1000000 - x10).toNat) ⟨hB, hF0, (by omega), trivial⟩ (fun K x9 x10 M11 h15 k16 => ?_)
  obtain ⟨hB12, hF13, i14, -⟩ := h15
  have q17 : 0 ≤ (M11 a1 1) ∧ (M11 a1 1) ≤ 24 := BN.at hB12 cd_a1 rfl
  have s18 : sI x10 = x10 := sIo (by omega) (by omega)
  have s19 : sI (M11 a1 1) = (M11 a1 1) := sIo (by omega) (by omega)
  refine ⟨fun c20 => ?_, fun c20 => ?_⟩
  · skip
    have s21 := sI_R x9
    exact hQ _ _ ⟨hB12, hF13, (by omega), trivial⟩
  · skip
    refine sC_Versions_editsTurned hB12 lt_a0 cd_a0 lt_a1 cd_a1 (by omega) (fun z22 M23 h24 => ?_)
    obtain ⟨hB25, f26, p27, -⟩ := h24
    have hF28 : ∀ j9 : Nat, ¬ (j9 = 100) → M23 j9 = M j9 := fun j9 h9 => ((f26 j9 (by omega)).trans (hF13 j9 h9))
    have s29 := sI_R x9
    exact k16 _ _ _ ⟨hB25, hF28, (by omega), trivial⟩ (by omega)
end zz30_C04
section zz30_C05
/-! safety, 5 -/
set_option maxHeartbeats 4000000 in
set_option maxRecDepth 100000 in
theorem sC_edits {M : zM} {a0 : Int} {a1 : Int} (hB : BN wC M) (v0 : (-2147483648) ≤ a0 ∧ a0 ≤ 2147483647) (v1 : (-2147483648) ≤ a1 ∧ a1 ≤ 2147483647) {Q : Int → zM → Prop} (hQ : ∀ (z : Int) (M1 : zM), BN wC M1 ∧ (∀ j9 : Nat, ¬ (j9 = 100) → M1 j9 = M j9) ∧ ((-2147483648) ≤ z ∧ z ≤ 2147483647) ∧ True → Q z M1) : wC_edits a0 a1 M Q := by
  unfold wC_edits
  have hF0 : ∀ j9 : Nat, ¬ (j9 = 100) → M j9 = M j9 := fun j9 _ => rfl
  refine sC_Versions_find hB (by omega) (fun h2 => ?_) (fun q1 h2 => ?_)
  · skip
    refine ⟨fun _ => ?_, fun q9 h9 => nomatch h9⟩
    refine sC_Versions_find hB (by omega) (fun h6 => ?_) (fun q5 h6 => ?_)
    · skip
      refine ⟨fun _ => ?_, fun q9 h9 => nomatch h9⟩
      exact hQ _ _ ⟨hB, hF0, (by omega), trivial⟩
    · skip
      refine ⟨(fun h9 => nomatch h9), fun q9 h9 => ?_⟩
      obtain rfl := Option.some.inj h9
      obtain ⟨⟨lt7, cd8⟩, h6⟩ := h6
      refine ⟨⟨lt7, cd8⟩, ?_⟩
      obtain ⟨lt9, cd10⟩ := nx_strip q5 lt7 cd8
      exact hQ _ _ ⟨hB, hF0, (by omega), trivial⟩
  · skip
    refine ⟨(fun h9 => nomatch h9), fun q9 h9 => ?_⟩
    obtain rfl := Option.some.inj h9
    obtain ⟨⟨lt3, cd4⟩, h2⟩ := h2
    refine ⟨⟨lt3, cd4⟩, ?_⟩
    obtain ⟨lt11, cd12⟩ := nx_strip q1 lt3 cd4
    refine sC_Versions_find hB (by omega) (fun h14 => ?_) (fun q13 h14 => ?_)
    · skip
      refine ⟨fun _ => ?_, fun q9 h9 => nomatch h9⟩
      exact hQ _ _ ⟨hB, hF0, (by omega), trivial⟩
    · skip
      refine ⟨(fun h9 => nomatch h9), fun q9 h9 => ?_⟩
      obtain rfl := Option.some.inj h9
      obtain ⟨⟨lt15, cd16⟩, h14⟩ := h14
      refine ⟨⟨lt15, cd16⟩, ?_⟩
      obtain ⟨lt17, cd18⟩ := nx_strip q13 lt15 cd16
      refine sC_Versions_fewestEdits hB lt3 cd4 lt15 cd16 (fun z19 M20 h21 => ?_)
      obtain ⟨hB22, f23, p24, -⟩ := h21
      have hF25 : ∀ j9 : Nat, ¬ (j9 = 100) → M20 j9 = M j9 := fun j9 h9 => ((f23 j9 (by omega)).trans (hF0 j9 h9))
      exact hQ _ _ ⟨hB22, hF25, (by omega), trivial⟩
set_option maxHeartbeats 4000000 in
set_option maxRecDepth 100000 in
theorem sC_row {M : zM} {a0 : Int} (hB : BN wC M) (v0 : (-2147483648) ≤ a0 ∧ a0 ≤ 2147483647) {Q : Int → Prop} {X : Prop} (hX : X) (hQ : ∀ (z : Int), ((-2147483648) ≤ z ∧ z ≤ 2147483647) ∧ True → Q z) : wC_row a0 M Q X := by
  unfold wC_row
  have s1 : sI a0 = a0 := sIo (by omega) (by omega)
  refine ⟨fun c2 => ?_, fun c2 => ?_⟩
  · skip
    exact hX
  · skip
    have q3 : 0 ≤ (M 0 10) ∧ (M 0 10) ≤ 40 := BN.at hB (rfl : zcd wC 0 = 0) rfl
    have s4 : sI (M 0 10) = (M 0 10) := sIo (by omega) (by omega)
    refine ⟨fun c5 => ?_, fun c5 => ?_⟩
    · skip
      exact hX
    · skip
      refine ⟨fun c6 => ?_, fun c6 => ?_⟩
      · skip
        have o7 : 0 ≤ (sI a0) ∧ (sI a0) < 40 := by omega
        refine ⟨o7, ?_⟩
        have q8 : (-2147483648) ≤ (M 133 (sI a0).toNat) ∧ (M 133 (sI a0).toNat) ≤ 2147483647 := BN.at hB (rfl : zcd wC 133 = 49) rfl
        have s9 : sI (M 133 (sI a0).toNat) = (M 133 (sI a0).toNat) := sIo (by omega) (by omega)
        exact hQ _ ⟨(by omega), trivial⟩
      · skip
        exact hX
end zz30_C05
