/-! SAFETY: bounds of the numbers of a world, by the code of their place; kept by every store -/
def cbL : List (Nat → Int × Int) := [(fun k => [(-2147483648, 2147483647), (-2147483648, 2147483647), (-2147483648, 2147483647), (-2147483648, 2147483647), (-2147483648, 2147483647), (-2147483648, 2147483647), (-2147483648, 2147483647), (-2147483648, 2147483647), (-2147483648, 2147483647), (-2147483648, 2147483647), (0, 40)].getD k (-2147483648, 2147483647)), (fun k => [(0, 255), (0, 100), (-1, 5), (-2147483648, 2147483647), (-2147483648, 2147483647), (-2147483648, 2147483647), (0, 9)].getD k (-2147483648, 2147483647)), (fun _ => (0, 255)), (fun _ => (-2147483648, 2147483647)), (fun _ => (-2147483648, 2147483647)), (fun _ => (0, 9)), (fun k => [(-2147483648, 2147483647), (0, 24)].getD k (-2147483648, 2147483647)), (fun _ => (-2147483648, 2147483647)), (fun k => [(-2147483648, 2147483647), (-2147483648, 2147483647), (0, 4)].getD k (-2147483648, 2147483647)), (fun _ => (-2147483648, 2147483647)), (fun _ => (-2147483648, 2147483647)), (fun k => [(0, 5000), (-9, 9), (0, 12)].getD k (-2147483648, 2147483647)), (fun _ => (0, 5000)), (fun _ => (-9, 9)), (fun k => [(-2147483648, 2147483647), (0, 1), (0, 23), (-2147483648, 2147483647), (-2147483648, 2147483647), (-2147483648, 2147483647)].getD k (-2147483648, 2147483647)), (fun _ => (-2147483648, 2147483647)), (fun k => [(0, 4), (0, 5000), (0, 24), (-2147483648, 2147483647)].getD k (-2147483648, 2147483647)), (fun _ => (0, 24)), (fun _ => (-2147483648, 2147483647)), (fun k => [(0, 100000), (0, 9), (0, 6), (0, 23), (-2147483648, 2147483647), (-2147483648, 2147483647), (0, 1000000), (-2147483648, 2147483647), (-2147483648, 2147483647)].getD k (-2147483648, 2147483647)), (fun _ => (0, 100000)), (fun _ => (0, 9)), (fun _ => (0, 23)), (fun _ => (-2147483648, 2147483647)), (fun _ => (0, 63)), (fun _ => (-2147483648, 2147483647)), (fun _ => (0, 1000000)), (fun _ => (0, 1000000)), (fun _ => (-2147483648, 2147483647)), (fun _ => (-2147483648, 2147483647)), (fun k => [(0, 2000), (-2147483648, 2147483647), (-2147483648, 2147483647), (0, 20), (-2147483648, 2147483647), (0, 20), (-2147483648, 2147483647), (-2147483648, 2147483647)].getD k (-2147483648, 2147483647)), (fun _ => (-2147483648, 2147483647)), (fun _ => (-2147483648, 2147483647)), (fun _ => (-2147483648, 2147483647)), (fun k => [(-2147483648, 2147483647), (0, 60), (-2147483648, 2147483647), (-2147483648, 2147483647)].getD k (-2147483648, 2147483647)), (fun _ => (-2147483648, 2147483647)), (fun _ => (-2147483648, 2147483647)), (fun _ => (-2147483648, 2147483647)), (fun k => [(0, 5), (-2147483648, 2147483647), (0, 41), (-2147483648, 2147483647), (0, 8), (-2147483648, 2147483647)].getD k (-2147483648, 2147483647)), (fun _ => (-2147483648, 2147483647)), (fun _ => (-2147483648, 2147483647)), (fun _ => (-2147483648, 2147483647)), (fun _ => (0, 8)), (fun _ => (-2147483648, 2147483647)), (fun k => [(0, 16), (-2147483648, 2147483647), (-2147483648, 2147483647), (-2147483648, 2147483647), (-2147483648, 2147483647)].getD k (-2147483648, 2147483647)), (fun _ => (-2147483648, 2147483647)), (fun _ => (-2147483648, 2147483647)), (fun _ => (-2147483648, 2147483647)), (fun _ => (-2147483648, 2147483647)), (fun _ => (-2147483648, 2147483647)), (fun k => [(-128, 127), (0, 100), (-2147483648, 2147483647), (0, 24), (-2147483648, 2147483647), (0, 24), (0, 1), (0, 23), (-2147483648, 2147483647), (-2147483648, 2147483647), (0, 4), (0, 5000), (-9, 9), (0, 12), (0, 100000), (0, 9), (0, 6), (-2147483648, 2147483647), (0, 20), (-2147483648, 2147483647), (0, 20), (-2147483648, 2147483647), (0, 2000), (-2147483648, 2147483647), (0, 60), (-2147483648, 2147483647), (0, 8), (0, 5), (-2147483648, 2147483647), (0, 24), (-2147483648, 2147483647), (-2147483648, 2147483647), (0, 16), (-2147483648, 2147483647), (-1, 64), (-2147483648, 2147483647), (0, 100), (-2147483648, 2147483647), (-2147483648, 2147483647), (0, 24), (-2147483648, 2147483647), (0, 24), (-2147483648, 2147483647), (0, 268435456), (0, 63), (-2147483648, 2147483647), (-2147483648, 2147483647), (-2147483648, 2147483647), (-1, 40), (-2147483648, 2147483647)].getD k (-2147483648, 2147483647)), (fun _ => (-128, 127)), (fun _ => (-2147483648, 2147483647)), (fun _ => (-2147483648, 2147483647)), (fun _ => (0, 24)), (fun _ => (0, 1)), (fun _ => (0, 23)), (fun _ => (-2147483648, 2147483647)), (fun _ => (-2147483648, 2147483647)), (fun _ => (0, 5000)), (fun _ => (-9, 9)), (fun _ => (0, 12)), (fun _ => (0, 100000)), (fun _ => (0, 9)), (fun _ => (-2147483648, 2147483647)), (fun _ => (-2147483648, 2147483647)), (fun _ => (-2147483648, 2147483647)), (fun _ => (0, 8)), (fun _ => (-2147483648, 2147483647)), (fun _ => (0, 24)), (fun _ => (-2147483648, 2147483647)), (fun _ => (-2147483648, 2147483647)), (fun _ => (-2147483648, 2147483647)), (fun _ => (-2147483648, 2147483647)), (fun _ => (0, 24)), (fun _ => (-2147483648, 2147483647)), (fun _ => (0, 24)), (fun _ => (-2147483648, 2147483647)), (fun _ => (0, 268435456)), (fun _ => (0, 63)), (fun _ => (-2147483648, 2147483647)), (fun _ => (-2147483648, 2147483647)), (fun _ => (-2147483648, 2147483647)), (fun _ => (-2147483648, 2147483647))]
def cbt (q : Nat) : Nat → Int × Int := cbL.getD q (fun _ => (-2147483648, 2147483647))
theorem getD_P {l : List (Int × Int)} {d : Int × Int} (h : ∀ x ∈ l, -2147483648 ≤ x.1 ∧ x.2 ≤ 2147483647) (hd : -2147483648 ≤ d.1 ∧ d.2 ≤ 2147483647) (k : Nat) : -2147483648 ≤ (l.getD k d).1 ∧ (l.getD k d).2 ≤ 2147483647 := by
  rw [List.getD_eq_getElem?_getD]
  cases e : l[k]? with
  | none => exact hd
  | some x => exact h x (List.mem_of_getElem? e)
theorem cbL_ok : ∀ f ∈ cbL, ∀ k, -2147483648 ≤ (f k).1 ∧ (f k).2 ≤ 2147483647 := by
  unfold cbL
  refine List.forall_mem_cons.mpr ⟨fun k => getD_P (by decide) (by decide) k, ?_⟩
  refine List.forall_mem_cons.mpr ⟨fun k => getD_P (by decide) (by decide) k, ?_⟩
  refine List.forall_mem_cons.mpr ⟨fun k => (show (-2147483648 : Int) ≤ (0 : Int) ∧ (255 : Int) ≤ 2147483647 from by decide), ?_⟩
  refine List.forall_mem_cons.mpr ⟨fun k => (show (-2147483648 : Int) ≤ (-2147483648 : Int) ∧ (2147483647 : Int) ≤ 2147483647 from by decide), ?_⟩
  refine List.forall_mem_cons.mpr ⟨fun k => (show (-2147483648 : Int) ≤ (-2147483648 : Int) ∧ (2147483647 : Int) ≤ 2147483647 from by decide), ?_⟩
  refine List.forall_mem_cons.mpr ⟨fun k => (show (-2147483648 : Int) ≤ (0 : Int) ∧ (9 : Int) ≤ 2147483647 from by decide), ?_⟩
  refine List.forall_mem_cons.mpr ⟨fun k => getD_P (by decide) (by decide) k, ?_⟩
  refine List.forall_mem_cons.mpr ⟨fun k => (show (-2147483648 : Int) ≤ (-2147483648 : Int) ∧ (2147483647 : Int) ≤ 2147483647 from by decide), ?_⟩
  refine List.forall_mem_cons.mpr ⟨fun k => getD_P (by decide) (by decide) k, ?_⟩
  refine List.forall_mem_cons.mpr ⟨fun k => (show (-2147483648 : Int) ≤ (-2147483648 : Int) ∧ (2147483647 : Int) ≤ 2147483647 from by decide), ?_⟩
  refine List.forall_mem_cons.mpr ⟨fun k => (show (-2147483648 : Int) ≤ (-2147483648 : Int) ∧ (2147483647 : Int) ≤ 2147483647 from by decide), ?_⟩
  refine List.forall_mem_cons.mpr ⟨fun k => getD_P (by decide) (by decide) k, ?_⟩
  refine List.forall_mem_cons.mpr ⟨fun k => (show (-2147483648 : Int) ≤ (0 : Int) ∧ (5000 : Int) ≤ 2147483647 from by decide), ?_⟩
  refine List.forall_mem_cons.mpr ⟨fun k => (show (-2147483648 : Int) ≤ (-9 : Int) ∧ (9 : Int) ≤ 2147483647 from by decide), ?_⟩
  refine List.forall_mem_cons.mpr ⟨fun k => getD_P (by decide) (by decide) k, ?_⟩
  refine List.forall_mem_cons.mpr ⟨fun k => (show (-2147483648 : Int) ≤ (-2147483648 : Int) ∧ (2147483647 : Int) ≤ 2147483647 from by decide), ?_⟩
  refine List.forall_mem_cons.mpr ⟨fun k => getD_P (by decide) (by decide) k, ?_⟩
  refine List.forall_mem_cons.mpr ⟨fun k => (show (-2147483648 : Int) ≤ (0 : Int) ∧ (24 : Int) ≤ 2147483647 from by decide), ?_⟩
  refine List.forall_mem_cons.mpr ⟨fun k => (show (-2147483648 : Int) ≤ (-2147483648 : Int) ∧ (2147483647 : Int) ≤ 2147483647 from by decide), ?_⟩
  refine List.forall_mem_cons.mpr ⟨fun k => getD_P (by decide) (by decide) k, ?_⟩
  refine List.forall_mem_cons.mpr ⟨fun k => (show (-2147483648 : Int) ≤ (0 : Int) ∧ (100000 : Int) ≤ 2147483647 from by decide), ?_⟩
  refine List.forall_mem_cons.mpr ⟨fun k => (show (-2147483648 : Int) ≤ (0 : Int) ∧ (9 : Int) ≤ 2147483647 from by decide), ?_⟩
  refine List.forall_mem_cons.mpr ⟨fun k => (show (-2147483648 : Int) ≤ (0 : Int) ∧ (23 : Int) ≤ 2147483647 from by decide), ?_⟩
  refine List.forall_mem_cons.mpr ⟨fun k => (show (-2147483648 : Int) ≤ (-2147483648 : Int) ∧ (2147483647 : Int) ≤ 2147483647 from by decide), ?_⟩
  refine List.forall_mem_cons.mpr ⟨fun k => (show (-2147483648 : Int) ≤ (0 : Int) ∧ (63 : Int) ≤ 2147483647 from by decide), ?_⟩
  refine List.forall_mem_cons.mpr ⟨fun k => (show (-2147483648 : Int) ≤ (-2147483648 : Int) ∧ (2147483647 : Int) ≤ 2147483647 from by decide), ?_⟩
  refine List.forall_mem_cons.mpr ⟨fun k => (show (-2147483648 : Int) ≤ (0 : Int) ∧ (1000000 : Int) ≤ 2147483647 from by decide), ?_⟩
  refine List.forall_mem_cons.mpr ⟨fun k => (show (-2147483648 : Int) ≤ (0 : Int) ∧ (1000000 : Int) ≤ 2147483647 from by decide), ?_⟩
  refine List.forall_mem_cons.mpr ⟨fun k => (show (-2147483648 : Int) ≤ (-2147483648 : Int) ∧ (2147483647 : Int) ≤ 2147483647 from by decide), ?_⟩
  refine List.forall_mem_cons.mpr ⟨fun k => (show (-2147483648 : Int) ≤ (-2147483648 : Int) ∧ (2147483647 : Int) ≤ 2147483647 from by decide), ?_⟩
  refine List.forall_mem_cons.mpr ⟨fun k => getD_P (by decide) (by decide) k, ?_⟩
  refine List.forall_mem_cons.mpr ⟨fun k => (show (-2147483648 : Int) ≤ (-2147483648 : Int) ∧ (2147483647 : Int) ≤ 2147483647 from by decide), ?_⟩
  refine List.forall_mem_cons.mpr ⟨fun k => (show (-2147483648 : Int) ≤ (-2147483648 : Int) ∧ (2147483647 : Int) ≤ 2147483647 from by decide), ?_⟩
  refine List.forall_mem_cons.mpr ⟨fun k => (show (-2147483648 : Int) ≤ (-2147483648 : Int) ∧ (2147483647 : Int) ≤ 2147483647 from by decide), ?_⟩
  refine List.forall_mem_cons.mpr ⟨fun k => getD_P (by decide) (by decide) k, ?_⟩
  refine List.forall_mem_cons.mpr ⟨fun k => (show (-2147483648 : Int) ≤ (-2147483648 : Int) ∧ (2147483647 : Int) ≤ 2147483647 from by decide), ?_⟩
  refine List.forall_mem_cons.mpr ⟨fun k => (show (-2147483648 : Int) ≤ (-2147483648 : Int) ∧ (2147483647 : Int) ≤ 2147483647 from by decide), ?_⟩
  refine List.forall_mem_cons.mpr ⟨fun k => (show (-2147483648 : Int) ≤ (-2147483648 : Int) ∧ (2147483647 : Int) ≤ 2147483647 from by decide), ?_⟩
  refine List.forall_mem_cons.mpr ⟨fun k => getD_P (by decide) (by decide) k, ?_⟩
  refine List.forall_mem_cons.mpr ⟨fun k => (show (-2147483648 : Int) ≤ (-2147483648 : Int) ∧ (2147483647 : Int) ≤ 2147483647 from by decide), ?_⟩
  refine List.forall_mem_cons.mpr ⟨fun k => (show (-2147483648 : Int) ≤ (-2147483648 : Int) ∧ (2147483647 : Int) ≤ 2147483647 from by decide), ?_⟩
  refine List.forall_mem_cons.mpr ⟨fun k => (show (-2147483648 : Int) ≤ (-2147483648 : Int) ∧ (2147483647 : Int) ≤ 2147483647 from by decide), ?_⟩
  refine List.forall_mem_cons.mpr ⟨fun k => (show (-2147483648 : Int) ≤ (0 : Int) ∧ (8 : Int) ≤ 2147483647 from by decide), ?_⟩
  refine List.forall_mem_cons.mpr ⟨fun k => (show (-2147483648 : Int) ≤ (-2147483648 : Int) ∧ (2147483647 : Int) ≤ 2147483647 from by decide), ?_⟩
  refine List.forall_mem_cons.mpr ⟨fun k => getD_P (by decide) (by decide) k, ?_⟩
  refine List.forall_mem_cons.mpr ⟨fun k => (show (-2147483648 : Int) ≤ (-2147483648 : Int) ∧ (2147483647 : Int) ≤ 2147483647 from by decide), ?_⟩
  refine List.forall_mem_cons.mpr ⟨fun k => (show (-2147483648 : Int) ≤ (-2147483648 : Int) ∧ (2147483647 : Int) ≤ 2147483647 from by decide), ?_⟩
  refine List.forall_mem_cons.mpr ⟨fun k => (show (-2147483648 : Int) ≤ (-2147483648 : Int) ∧ (2147483647 : Int) ≤ 2147483647 from by decide), ?_⟩
  refine List.forall_mem_cons.mpr ⟨fun k => (show (-2147483648 : Int) ≤ (-2147483648 : Int) ∧ (2147483647 : Int) ≤ 2147483647 from by decide), ?_⟩
  refine List.forall_mem_cons.mpr ⟨fun k => (show (-2147483648 : Int) ≤ (-2147483648 : Int) ∧ (2147483647 : Int) ≤ 2147483647 from by decide), ?_⟩
  refine List.forall_mem_cons.mpr ⟨fun k => getD_P (by decide) (by decide) k, ?_⟩
  refine List.forall_mem_cons.mpr ⟨fun k => (show (-2147483648 : Int) ≤ (-128 : Int) ∧ (127 : Int) ≤ 2147483647 from by decide), ?_⟩
  refine List.forall_mem_cons.mpr ⟨fun k => (show (-2147483648 : Int) ≤ (-2147483648 : Int) ∧ (2147483647 : Int) ≤ 2147483647 from by decide), ?_⟩
  refine List.forall_mem_cons.mpr ⟨fun k => (show (-2147483648 : Int) ≤ (-2147483648 : Int) ∧ (2147483647 : Int) ≤ 2147483647 from by decide), ?_⟩
  refine List.forall_mem_cons.mpr ⟨fun k => (show (-2147483648 : Int) ≤ (0 : Int) ∧ (24 : Int) ≤ 2147483647 from by decide), ?_⟩
  refine List.forall_mem_cons.mpr ⟨fun k => (show (-2147483648 : Int) ≤ (0 : Int) ∧ (1 : Int) ≤ 2147483647 from by decide), ?_⟩
  refine List.forall_mem_cons.mpr ⟨fun k => (show (-2147483648 : Int) ≤ (0 : Int) ∧ (23 : Int) ≤ 2147483647 from by decide), ?_⟩
  refine List.forall_mem_cons.mpr ⟨fun k => (show (-2147483648 : Int) ≤ (-2147483648 : Int) ∧ (2147483647 : Int) ≤ 2147483647 from by decide), ?_⟩
  refine List.forall_mem_cons.mpr ⟨fun k => (show (-2147483648 : Int) ≤ (-2147483648 : Int) ∧ (2147483647 : Int) ≤ 2147483647 from by decide), ?_⟩
  refine List.forall_mem_cons.mpr ⟨fun k => (show (-2147483648 : Int) ≤ (0 : Int) ∧ (5000 : Int) ≤ 2147483647 from by decide), ?_⟩
  refine List.forall_mem_cons.mpr ⟨fun k => (show (-2147483648 : Int) ≤ (-9 : Int) ∧ (9 : Int) ≤ 2147483647 from by decide), ?_⟩
  refine List.forall_mem_cons.mpr ⟨fun k => (show (-2147483648 : Int) ≤ (0 : Int) ∧ (12 : Int) ≤ 2147483647 from by decide), ?_⟩
  refine List.forall_mem_cons.mpr ⟨fun k => (show (-2147483648 : Int) ≤ (0 : Int) ∧ (100000 : Int) ≤ 2147483647 from by decide), ?_⟩
  refine List.forall_mem_cons.mpr ⟨fun k => (show (-2147483648 : Int) ≤ (0 : Int) ∧ (9 : Int) ≤ 2147483647 from by decide), ?_⟩
  refine List.forall_mem_cons.mpr ⟨fun k => (show (-2147483648 : Int) ≤ (-2147483648 : Int) ∧ (2147483647 : Int) ≤ 2147483647 from by decide), ?_⟩
  refine List.forall_mem_cons.mpr ⟨fun k => (show (-2147483648 : Int) ≤ (-2147483648 : Int) ∧ (2147483647 : Int) ≤ 2147483647 from by decide), ?_⟩
  refine List.forall_mem_cons.mpr ⟨fun k => (show (-2147483648 : Int) ≤ (-2147483648 : Int) ∧ (2147483647 : Int) ≤ 2147483647 from by decide), ?_⟩
  refine List.forall_mem_cons.mpr ⟨fun k => (show (-2147483648 : Int) ≤ (0 : Int) ∧ (8 : Int) ≤ 2147483647 from by decide), ?_⟩
  refine List.forall_mem_cons.mpr ⟨fun k => (show (-2147483648 : Int) ≤ (-2147483648 : Int) ∧ (2147483647 : Int) ≤ 2147483647 from by decide), ?_⟩
  refine List.forall_mem_cons.mpr ⟨fun k => (show (-2147483648 : Int) ≤ (0 : Int) ∧ (24 : Int) ≤ 2147483647 from by decide), ?_⟩
  refine List.forall_mem_cons.mpr ⟨fun k => (show (-2147483648 : Int) ≤ (-2147483648 : Int) ∧ (2147483647 : Int) ≤ 2147483647 from by decide), ?_⟩
  refine List.forall_mem_cons.mpr ⟨fun k => (show (-2147483648 : Int) ≤ (-2147483648 : Int) ∧ (2147483647 : Int) ≤ 2147483647 from by decide), ?_⟩
  refine List.forall_mem_cons.mpr ⟨fun k => (show (-2147483648 : Int) ≤ (-2147483648 : Int) ∧ (2147483647 : Int) ≤ 2147483647 from by decide), ?_⟩
  refine List.forall_mem_cons.mpr ⟨fun k => (show (-2147483648 : Int) ≤ (-2147483648 : Int) ∧ (2147483647 : Int) ≤ 2147483647 from by decide), ?_⟩
  refine List.forall_mem_cons.mpr ⟨fun k => (show (-2147483648 : Int) ≤ (0 : Int) ∧ (24 : Int) ≤ 2147483647 from by decide), ?_⟩
  refine List.forall_mem_cons.mpr ⟨fun k => (show (-2147483648 : Int) ≤ (-2147483648 : Int) ∧ (2147483647 : Int) ≤ 2147483647 from by decide), ?_⟩
  refine List.forall_mem_cons.mpr ⟨fun k => (show (-2147483648 : Int) ≤ (0 : Int) ∧ (24 : Int) ≤ 2147483647 from by decide), ?_⟩
  refine List.forall_mem_cons.mpr ⟨fun k => (show (-2147483648 : Int) ≤ (-2147483648 : Int) ∧ (2147483647 : Int) ≤ 2147483647 from by decide), ?_⟩
  refine List.forall_mem_cons.mpr ⟨fun k => (show (-2147483648 : Int) ≤ (0 : Int) ∧ (268435456 : Int) ≤ 2147483647 from by decide), ?_⟩
  refine List.forall_mem_cons.mpr ⟨fun k => (show (-2147483648 : Int) ≤ (0 : Int) ∧ (63 : Int) ≤ 2147483647 from by decide), ?_⟩
  refine List.forall_mem_cons.mpr ⟨fun k => (show (-2147483648 : Int) ≤ (-2147483648 : Int) ∧ (2147483647 : Int) ≤ 2147483647 from by decide), ?_⟩
  refine List.forall_mem_cons.mpr ⟨fun k => (show (-2147483648 : Int) ≤ (-2147483648 : Int) ∧ (2147483647 : Int) ≤ 2147483647 from by decide), ?_⟩
  refine List.forall_mem_cons.mpr ⟨fun k => (show (-2147483648 : Int) ≤ (-2147483648 : Int) ∧ (2147483647 : Int) ≤ 2147483647 from by decide), ?_⟩
  refine List.forall_mem_cons.mpr ⟨fun k => (show (-2147483648 : Int) ≤ (-2147483648 : Int) ∧ (2147483647 : Int) ≤ 2147483647 from by decide), ?_⟩
  exact fun _ h => absurd h List.not_mem_nil
theorem cbt_ok (q k : Nat) : -2147483648 ≤ (cbt q k).1 ∧ (cbt q k).2 ≤ 2147483647 := by
  unfold cbt
  rw [List.getD_eq_getElem?_getD]
  cases e : cbL[q]? with
  | none => exact ⟨show (-2147483648 : Int) ≤ -2147483648 by decide, show (2147483647 : Int) ≤ 2147483647 by decide⟩
  | some f => exact cbL_ok f (List.mem_of_getElem? e) k
def BN (w : zW) (M : zM) : Prop := ∀ j k, (cbt (zcd w j) k).1 ≤ M j k ∧ M j k ≤ (cbt (zcd w j) k).2
theorem BN.at {w : zW} {M : zM} (h : BN w M) {j k q : Nat} {lo hi : Int} (hc : zcd w j = q) (e : cbt q k = (lo, hi)) : lo ≤ M j k ∧ M j k ≤ hi := by
  have h1 := h j k
  rw [hc, e] at h1
  exact h1
theorem BN.up {w : zW} {M : zM} (h : BN w M) {j k q : Nat} {lo hi v : Int} (hc : zcd w j = q) (e : cbt q k = (lo, hi)) (h1 : lo ≤ v) (h2 : v ≤ hi) : BN w (zup M j k v) := by
  intro a b
  by_cases hab : a = j ∧ b = k
  · obtain ⟨rfl, rfl⟩ := hab
    rw [zup_s, hc, e]
    exact ⟨h1, h2⟩
  · rw [zup_n M v hab]
    exact h a b
theorem BN.cp {w : zW} {M : zM} (h : BN w M) {j0 j1 sp dp n q : Nat} (hc : zcd w j1 = q) (e : ∀ k, cbt q k = (-2147483648, 2147483647)) (h0 : ∀ k, -2147483648 ≤ M j0 k ∧ M j0 k ≤ 2147483647) : BN w (zcp M j0 j1 sp dp n) := by
  intro a b
  unfold zcp
  by_cases hab : a = j1 ∧ dp ≤ b ∧ b < dp + n
  · rw [if_pos hab]
    obtain ⟨rfl, -⟩ := hab
    rw [hc, e]
    exact h0 _
  · rw [if_neg hab]
    exact h a b
theorem zcp_row {M : zM} {j0 j1 sp dp n a : Nat} (h : a ≠ j1) : zcp M j0 j1 sp dp n a = M a := by
  funext b
  unfold zcp
  rw [if_neg (fun q => h q.1)]
/-- the model's: and rings are not empty -/
def BI (M : zM) : Prop := BN wR M ∧ ∀ k : Nat, k < 4 → (k : Int) < M 0 10 → 1 ≤ M 4 k
theorem BI.up {M : zM} (h : BI M) {j k q : Nat} {lo hi v : Int} (hc : zcd wR j = q) (e : cbt q k = (lo, hi)) (h1 : lo ≤ v) (h2 : v ≤ hi) (hj : j ≠ 4 ∧ j ≠ 0) : BI (zup M j k v) := by
  refine ⟨h.1.up hc e h1 h2, fun i hi hr => ?_⟩
  rw [zup_n M v (fun q => hj.2 q.1.symm)] at hr
  rw [zup_n M v (fun q => hj.1 q.1.symm)]
  exact h.2 i hi hr
theorem BI.up0 {M : zM} (h : BI M) {k : Nat} {lo hi v : Int} (e : cbt 50 k = (lo, hi)) (h1 : lo ≤ v) (h2 : v ≤ hi) (hk : k ≠ 10) : BI (zup M 0 k v) := by
  refine ⟨h.1.up (rfl : zcd wR 0 = 50) e h1 h2, fun i hi hr => ?_⟩
  rw [zup_n M v (fun q => hk q.2.symm)] at hr
  rw [zup_n M v (fun q => absurd q.1 (by decide))]
  exact h.2 i hi hr
theorem BI.up4 {M : zM} (h : BI M) {k : Nat} {v : Int} (h1 : 1 ≤ v) (h2 : v ≤ 24) : BI (zup M 4 k v) := by
  refine ⟨h.1.up (rfl : zcd wR 4 = 54) (rfl : cbt 54 k = (0, 24)) (by omega) h2, fun i hi hr => ?_⟩
  rw [zup_n M v (fun q => absurd q.1 (by decide))] at hr
  by_cases hk : i = k
  · subst hk
    rw [zup_s]
    exact h1
  · rw [zup_n M v (fun q => hk q.2)]
    exact h.2 i hi hr
theorem BI.up10 {M : zM} (h : BI M) {v : Int} (h1 : v ≤ 0) (h2 : 0 ≤ v) : BI (zup M 0 10 v) := by
  refine ⟨h.1.up (rfl : zcd wR 0 = 50) (rfl : cbt 50 10 = (0, 4)) h2 (by omega), fun i hi hr => ?_⟩
  rw [zup_s] at hr
  omega
theorem BI.upR {M : zM} (h : BI M) {v : Int} (hv : v = M 0 10 + 1) (h4 : v ≤ 4) (h1 : 1 ≤ M 4 (M 0 10).toNat) : BI (zup M 0 10 v) := by
  have b : 0 ≤ M 0 10 ∧ M 0 10 ≤ 4 := BN.at h.1 (rfl : zcd wR 0 = 50) rfl
  refine ⟨h.1.up (rfl : zcd wR 0 = 50) (rfl : cbt 50 10 = (0, 4)) (by omega) h4, fun i hi hr => ?_⟩
  rw [zup_s] at hr
  rw [zup_n M v (fun q => absurd q.1 (by decide))]
  by_cases hk : (i : Int) < M 0 10
  · exact h.2 i hi hk
  · rw [show i = (M 0 10).toNat by omega]
    exact h1
theorem tmodN (x y : Int) (h1 : 0 ≤ x) (h2 : 1 ≤ y) : 0 ≤ x.tmod y ∧ x.tmod y < y := by
  rw [Int.tmod_eq_emod_of_nonneg h1]
  exact ⟨Int.emod_nonneg x (by omega), Int.emod_lt_of_pos x (by omega)⟩
theorem emB (x y : Int) (h : 0 < y) : 0 ≤ x % y ∧ x % y < y := ⟨Int.emod_nonneg x (by omega), Int.emod_lt_of_pos x h⟩
theorem tdivB (x y : Int) (h1 : 0 ≤ x) (h2 : 1 ≤ y) : 0 ≤ x.tdiv y ∧ x.tdiv y ≤ x := by
  rw [Int.tdiv_eq_ediv_of_nonneg h1]
  exact ⟨Int.ediv_nonneg h1 (by omega), Int.ediv_le_self y h1⟩
theorem absI_b (x : Int) : 0 ≤ absI x ∧ (absI x = x ∨ absI x = -x) := by
  unfold absI
  split <;> omega
theorem mulB (a b x y : Int) (h1 : 0 ≤ x) (h2 : x ≤ a) (h3 : 0 ≤ y) (h4 : y ≤ b) : 0 ≤ x * y ∧ x * y ≤ a * b := ⟨Int.mul_nonneg h1 h3, Int.mul_le_mul h2 h4 h3 (Int.le_trans h1 h2)⟩
theorem andI_br (x : Int) {c : Int} (h1 : 0 ≤ c) (h2 : c ≤ 2147483647) : 0 ≤ andI x c ∧ andI x c ≤ c := zand_r (x := x) h1 h2 (andI_R x c) (by unfold andI; rw [iI_e])
theorem andI_bl (x : Int) {c : Int} (h1 : 0 ≤ c) (h2 : c ≤ 2147483647) : 0 ≤ andI c x ∧ andI c x ≤ c := zand_l (x := x) h1 h2 (andI_R c x) (by unfold andI; rw [iI_e])
theorem shl1_b (n : Int) (h1 : 0 ≤ n) (h2 : n ≤ 6) : 1 ≤ shlI 1 n ∧ shlI 1 n ≤ 64 := by
  have h : n = 0 ∨ n = 1 ∨ n = 2 ∨ n = 3 ∨ n = 4 ∨ n = 5 ∨ n = 6 := by omega
  rcases h with rfl | rfl | rfl | rfl | rfl | rfl | rfl <;> decide
theorem BN.r32 {w : zW} {M : zM} (h : BN w M) (j k : Nat) : -2147483648 ≤ M j k ∧ M j k ≤ 2147483647 := by
  have h1 := h j k
  have h2 := cbt_ok (zcd w j) k
  omega
theorem iI_nat {x : Int} (h0 : 0 ≤ x) (h1 : x ≤ 2147483647) : (iI x).toBitVec.toNat = x.toNat := by
  have ht : (iI x).toInt = x := iI_t ⟨by omega, h1⟩
  have h3 : (iI x).toBitVec.toInt = x := ht
  rw [BitVec.toInt_eq_toNat_cond] at h3
  split at h3
  · omega
  · have := (iI x).toBitVec.isLt
    omega
theorem i32_nat {a : Int32} {n : Nat} (h : a.toBitVec.toNat = n) (hn : n ≤ 2147483647) : a.toInt = n := by
  show a.toBitVec.toInt = n
  rw [BitVec.toInt_eq_toNat_cond, h]
  split
  · rfl
  · omega
/-- of numbers not below 0: 'and' and 'or' as of natural numbers -/
theorem andI_nat {x y : Int} (hx : 0 ≤ x) (hx2 : x ≤ 2147483647) (hy : 0 ≤ y) (hy2 : y ≤ 2147483647) : andI x y = ((x.toNat &&& y.toNat : Nat) : Int) := by
  unfold andI
  refine i32_nat ?_ ?_
  · rw [Int32.toBitVec_and, BitVec.toNat_and, iI_nat hx hx2, iI_nat hy hy2]
  · exact Nat.le_trans Nat.and_le_left (by omega)
theorem orI_nat {x y : Int} (hx : 0 ≤ x) (hx2 : x ≤ 2147483647) (hy : 0 ≤ y) (hy2 : y ≤ 2147483647) : orI x y = ((x.toNat ||| y.toNat : Nat) : Int) := by
  unfold orI
  refine i32_nat ?_ ?_
  · rw [Int32.toBitVec_or, BitVec.toNat_or, iI_nat hx hx2, iI_nat hy hy2]
  · have h : x.toNat ||| y.toNat < 2 ^ 31 := Nat.or_lt_two_pow (by omega) (by omega)
    omega
theorem or64 (x y : Int) (h1 : 0 ≤ x) (h2 : x ≤ 63) (h3 : 0 ≤ y) (h4 : y ≤ 63) : 0 ≤ orI x y ∧ orI x y ≤ 63 := by
  rw [orI_nat h1 (by omega) h3 (by omega)]
  have h : x.toNat ||| y.toNat < 2 ^ 6 := Nat.or_lt_two_pow (by omega) (by omega)
  omega
theorem andI_le (x y : Int) (h1 : 0 ≤ x) (h2 : x ≤ 2147483647) : 0 ≤ andI x y ∧ andI x y ≤ x := by
  have h : (iI x &&& iI y).toBitVec.toNat ≤ x.toNat := by
    rw [Int32.toBitVec_and, BitVec.toNat_and, iI_nat h1 h2]
    exact Nat.and_le_left
  have h5 := i32_nat (a := iI x &&& iI y) rfl (by omega)
  unfold andI
  omega
theorem shl01 (b n : Int) (h1 : 0 ≤ b) (h2 : b ≤ 1) (h3 : 0 ≤ n) (h4 : n ≤ 5) : 0 ≤ shlI b n ∧ shlI b n ≤ 32 := by
  have hb : b = 0 ∨ b = 1 := by omega
  have h : n = 0 ∨ n = 1 ∨ n = 2 ∨ n = 3 ∨ n = 4 ∨ n = 5 := by omega
  rcases hb with rfl | rfl <;> rcases h with rfl | rfl | rfl | rfl | rfl | rfl <;> decide
theorem tmodB (x y : Int) (h : 0 < y) : -y < x.tmod y ∧ x.tmod y < y := by
  have h1 := Int.natAbs_tmod x y
  have h2 := Nat.mod_lt x.natAbs (show y.natAbs > 0 by omega)
  omega
