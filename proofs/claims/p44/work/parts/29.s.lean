section zz29_sbase
/-! SAFETY: bounds of the numbers of a world, by the code of their place; kept by every store -/
def cbL : List (Nat → Int × Int) := [(fun k => [(-2147483648, 2147483647), (-2147483648, 2147483647), (-2147483648, 2147483647), (-2147483648, 2147483647), (-2147483648, 2147483647), (-2147483648, 2147483647), (-2147483648, 2147483647), (-2147483648, 2147483647), (-2147483648, 2147483647), (-2147483648, 2147483647), (0, 40)].getD k (-2147483648, 2147483647)), (fun k => [(0, 255), (0, 100), (-1, 5), (-2147483648, 2147483647), (-2147483648, 2147483647), (-2147483648, 2147483647), (0, 9)].getD k (-2147483648, 2147483647)), (fun _ => (0, 255)), (fun _ => (-2147483648, 2147483647)), (fun _ => (-2147483648, 2147483647)), (fun _ => (0, 9)), (fun k => [(-2147483648, 2147483647), (0, 24)].getD k (-2147483648, 2147483647)), (fun _ => (-2147483648, 2147483647)), (fun k => [(-2147483648, 2147483647), (-2147483648, 2147483647), (0, 4)].getD k (-2147483648, 2147483647)), (fun _ => (-2147483648, 2147483647)), (fun _ => (-2147483648, 2147483647)), (fun k => [(0, 5000), (-9, 9), (0, 12)].getD k (-2147483648, 2147483647)), (fun _ => (0, 5000)), (fun _ => (-9, 9)), (fun k => [(-2147483648, 2147483647), (0, 1), (0, 23), (-2147483648, 2147483647), (-2147483648, 2147483647), (-2147483648, 2147483647)].getD k (-2147483648, 2147483647)), (fun _ => (-2147483648, 2147483647)), (fun k => [(0, 4), (0, 5000), (0, 24), (-2147483648, 2147483647)].getD k (-2147483648, 2147483647)), (fun _ => (0, 24)), (fun _ => (-2147483648, 2147483647)), (fun k => [(0, 100000), (0, 9), (0, 6), (0, 23), (-2147483648, 2147483647), (-2147483648, 2147483647), (0, 1000000), (-2147483648, 2147483647), (-2147483648, 2147483647)].getD k (-2147483648, 2147483647)), (fun _ => (0, 100000)), (fun _ => (0, 9)), (fun _ => (0, 23)), (fun _ => (-2147483648, 2147483647)), (fun _ => (0, 63)), (fun _ => (-2147483648, 2147483647)), (fun _ => (0, 1000000)), (fun _ => (0, 1000000)), (fun _ => (-2147483648, 2147483647)), (fun _ => (-2147483648, 2147483647)), (fun k => [(0, 2000), (-2147483648, 2147483647), (-2147483648, 2147483647), (0, 20), (-2147483648, 2147483647), (0, 20), (-2147483648, 2147483647), (-2147483648, 2147483647)].getD k (-2147483648, 2147483647)), (fun _ => (-2147483648, 2147483647)), (fun _ => (-2147483648, 2147483647)), (fun _ => (-2147483648, 2147483647)), (fun k => [(-2147483648, 2147483647), (0, 60), (-2147483648, 2147483647), (-2147483648, 2147483647)].getD k (-2147483648, 2147483647)), (fun _ => (-2147483648, 2147483647)), (fun _ => (-2147483648, 2147483647)), (fun _ => (-2147483648, 2147483647)), (fun k => [(0, 5), (-2147483648, 2147483647), (0, 41), (-2147483648, 2147483647), (0, 8), (-2147483648, 2147483647)].getD k (-2147483648, 2147483647)), (fun _ => (-2147483648, 2147483647)), (fun _ => (-2147483648, 2147483647)), (fun _ => (-2147483648, 2147483647)), (fun _ => (0, 8)), (fun _ => (-2147483648, 2147483647)), (fun k => [(0, 16), (-2147483648, 2147483647), (-2147483648, 2147483647), (-2147483648, 2147483647), (-2147483648, 2147483647)].getD k (-2147483648, 2147483647)), (fun _ => (-2147483648, 2147483647)), (fun _ => (-2147483648, 2147483647)), (fun _ => (-2147483648, 2147483647)), (fun _ => (-2147483648, 2147483647)), (fun _ => (-2147483648, 2147483647)), (fun k => [(-128, 127), (0, 100), (-2147483648, 2147483647), (0, 24), (-2147483648, 2147483647), (0, 24), (0, 1), (0, 23), (-2147483648, 2147483647), (-2147483648, 2147483647), (0, 4), (0, 5000), (-9, 9), (0, 12), (0, 100000), (0, 9), (0, 6), (-2147483648, 2147483647), (0, 20), (-2147483648, 2147483647), (0, 20), (-2147483648, 2147483647), (0, 2000), (-2147483648, 2147483647), (0, 60), (-2147483648, 2147483647), (0, 8), (0, 5), (-2147483648, 2147483647), (0, 24), (-2147483648, 2147483647), (-2147483648, 2147483647), (0, 16), (-2147483648, 2147483647), (-1, 64), (-2147483648, 2147483647), (0, 100), (-2147483648, 2147483647), (-2147483648, 2147483647), (0, 24), (-2147483648, 2147483647), (0, 24), (-2147483648, 2147483647), (0, 268435456), (0, 63), (-2147483648, 2147483647), (-2147483648, 2147483647), (-2147483648, 2147483647), (-1, 40), (-2147483648, 2147483647)].getD k (-2147483648, 2147483647)), (fun _ => (-128, 127)), (fun _ => (-2147483648, 2147483647)), (fun _ => (-2147483648, 2147483647)), (fun _ => (0, 24)), (fun _ => (0, 1)), (fun _ => (0, 23)), (fun _ => (-2147483648, 2147483647)), (fun _ => (-2147483648, 2147483647)), (fun _ => (0, 5000)), (fun _ => (-9, 9)), (fun _ => (0, 12)), (fun _ => (0, 100000)), (fun _ => (0, 9)), (fun _ => (-2147483648, 2147483647)), (fun _ => (-2147483648, 2147483647)), (fun _ => (-2147483648, 2147483647)), (fun _ => (0, 8)), (fun _ => (-2147483648, 2147483647)), (fun _ => (0, 24)), (fun _ => (-2147483648, 2147483647)), (fun _ => (-2147483648, 2147483647)), (fun _ => (-2147483648, 2147483647)), (fun _ => (-2147483648, 2147483647)), (fun _ => (0, 24)), (fun _ => (-2147483648, 2147483647)), (fun _ => (0, 24)), (fun _ => (-2147483648, 2147483647)), (fun _ => (0, 268435456)), (fun _ => (0, 63)), (fun _ => (-2147483648, 2147483647)), (fun _ => (-2147483648, 2147483647)), (fun _ => (-2147483648, 2147483647)), (fun _ => (-2147483648, 2147483647))]
def cbt (q : Nat) : Nat → Int × Int := cbL.getD q (fun _ => (-2147483648, 2147483647))
theorem getD_P {l : List (Int × Int)} {d : Int × Int} (h : ∀ x ∈ l, -2147483648 ≤ x.1 ∧ x.2 ≤ 2147483647) (hd : -2147483648 ≤ d.1 ∧ d.2 ≤ 2147483647) (k : Nat) : -2147483648 ≤ (l.getD k d).1 ∧ (l.getD k d).2 ≤ 2147483647 := by
  rw [List.getD_eq_getElem?_getD]
  cases e : l[k]? with
  | none => exact hd
  | some x => exact h x (List.mem_of_getElem? e)
theorem cbL_ok : ∀ f ∈ cbL, ∀ k, -2147483648 ≤ (f k).1 ∧ (f k).2 ≤ 2147483647 := by
  unfold cbL
  refine List.forall_mem_cons.mpr ⟨fun k => getD_P (by decide) (by decide) k, ?_⟩
  refine List.forall_mem_cons.mpr ⟨fun k => getD_P (by decide) (by decide) k, ?_⟩
  refine List.forall_mem_cons.mpr ⟨fun k => (show (-2147483648 : Int) ≤ (0 : Int) ∧ (255 : Int) ≤ 2147483647 from by decide), ?_⟩
  refine List.forall_mem_cons.mpr ⟨fun k => (show (-2147483648 : Int) ≤ (-2147483648 : Int) ∧ (2147483647 : Int) ≤ 2147483647 from by decide), ?_⟩
  refine List.forall_mem_cons.mpr ⟨fun k => (show (-2147483648 : Int) ≤ (-2147483648 : Int) ∧ (2147483647 : Int) ≤ 2147483647 from by decide), ?_⟩
  refine List.forall_mem_cons.mpr ⟨fun k => (show (-2147483648 : Int) ≤ (0 : Int) ∧ (9 : Int) ≤ 2147483647 from by decide), ?_⟩
  refine List.forall_mem_cons.mpr ⟨fun k => getD_P (by decide) (by decide) k, ?_⟩
  refine List.forall_mem_cons.mpr ⟨fun k => (show (-2147483648 : Int) ≤ (-2147483648 : Int) ∧ (2147483647 : Int) ≤ 2147483647 from by decide), ?_⟩
  refine List.forall_mem_cons.mpr ⟨fun k => getD_P (by decide) (by decide) k, ?_⟩
  refine List.forall_mem_cons.mpr ⟨fun k => (show (-2147483648 : Int) ≤ (-2147483648 : Int) ∧ (2147483647 : Int) ≤ 2147483647 from by decide), ?_⟩
  refine List.forall_mem_cons.mpr ⟨fun k => (show (-2147483648 : Int) ≤ (-2147483648 : Int) ∧ (2147483647 : Int) ≤ 2147483647 from by decide), ?_⟩
  refine List.forall_mem_cons.mpr ⟨fun k => getD_P (by decide) (by decide) k, ?_⟩
  refine List.forall_mem_cons.mpr ⟨fun k => (show (-2147483648 : Int) ≤ (0 : Int) ∧ (5000 : Int) ≤ 2147483647 from by decide), ?_⟩
  refine List.forall_mem_cons.mpr ⟨fun k => (show (-2147483648 : Int) ≤ (-9 : Int) ∧ (9 : Int) ≤ 2147483647 from by decide), ?_⟩
  refine List.forall_mem_cons.mpr ⟨fun k => getD_P (by decide) (by decide) k, ?_⟩
  refine List.forall_mem_cons.mpr ⟨fun k => (show (-2147483648 : Int) ≤ (-2147483648 : Int) ∧ (2147483647 : Int) ≤ 2147483647 from by decide), ?_⟩
  refine List.forall_mem_cons.mpr ⟨fun k => getD_P (by decide) (by decide) k, ?_⟩
  refine List.forall_mem_cons.mpr ⟨fun k => (show (-2147483648 : Int) ≤ (0 : Int) ∧ (24 : Int) ≤ 2147483647 from by decide), ?_⟩
  refine List.forall_mem_cons.mpr ⟨fun k => (show (-2147483648 : Int) ≤ (-2147483648 : Int) ∧ (2147483647 : Int) ≤ 2147483647 from by decide), ?_⟩
  refine List.forall_mem_cons.mpr ⟨fun k => getD_P (by decide) (by decide) k, ?_⟩
  refine List.forall_mem_cons.mpr ⟨fun k => (show (-2147483648 : Int) ≤ (0 : Int) ∧ (100000 : Int) ≤ 2147483647 from by decide), ?_⟩
  refine List.forall_mem_cons.mpr ⟨fun k => (show (-2147483648 : Int) ≤ (0 : Int) ∧ (9 : Int) ≤ 2147483647 from by decide), ?_⟩
  refine List.forall_mem_cons.mpr ⟨fun k => (show (-2147483648 : Int) ≤ (0 : Int) ∧ (23 : Int) ≤ 2147483647 from by decide), ?_⟩
  refine List.forall_mem_cons.mpr ⟨fun k => (show (-2147483648 : Int) ≤ (-2147483648 : Int) ∧ (2147483647 : Int) ≤ 2147483647 from by decide), ?_⟩
  refine List.forall_mem_cons.mpr ⟨fun k => (show (-2147483648 : Int) ≤ (0 : Int) ∧ (63 : Int) ≤ 2147483647 from by decide), ?_⟩
  refine List.forall_mem_cons.mpr ⟨fun k => (show (-2147483648 : Int) ≤ (-2147483648 : Int) ∧ (2147483647 : Int) ≤ 2147483647 from by decide), ?_⟩
  refine List.forall_mem_cons.mpr ⟨fun k => (show (-2147483648 : Int) ≤ (0 : Int) ∧ (1000000 : Int) ≤ 2147483647 from by decide), ?_⟩
  refine List.forall_mem_cons.mpr ⟨fun k => (show (-2147483648 : Int) ≤ (0 : Int) ∧ (1000000 : Int) ≤ 2147483647 from by decide), ?_⟩
  refine List.forall_mem_cons.mpr ⟨fun k => (show (-2147483648 : Int) ≤ (-2147483648 : Int) ∧ (2147483647 : Int) ≤ 2147483647 from by decide), ?_⟩
  refine List.forall_mem_cons.mpr ⟨fun k => (show (-2147483648 : Int) ≤ (-2147483648 : Int) ∧ (2147483647 : Int) ≤ 2147483647 from by decide), ?_⟩
  refine List.forall_mem_cons.mpr ⟨fun k => getD_P (by decide) (by decide) k, ?_⟩
  refine List.forall_mem_cons.mpr ⟨fun k => (show (-2147483648 : Int) ≤ (-2147483648 : Int) ∧ (2147483647 : Int) ≤ 2147483647 from by decide), ?_⟩
  refine List.forall_mem_cons.mpr ⟨fun k => (show (-2147483648 : Int) ≤ (-2147483648 : Int) ∧ (2147483647 : Int) ≤ 2147483647 from by decide), ?_⟩
  refine List.forall_mem_cons.mpr ⟨fun k => (show (-2147483648 : Int) ≤ (-2147483648 : Int) ∧ (2147483647 : Int) ≤ 2147483647 from by decide), ?_⟩
  refine List.forall_mem_cons.mpr ⟨fun k => getD_P (by decide) (by decide) k, ?_⟩
  refine List.forall_mem_cons.mpr ⟨fun k => (show (-2147483648 : Int) ≤ (-2147483648 : Int) ∧ (2147483647 : Int) ≤ 2147483647 from by decide), ?_⟩
  refine List.forall_mem_cons.mpr ⟨fun k => (show (-2147483648 : Int) ≤ (-2147483648 : Int) ∧ (2147483647 : Int) ≤ 2147483647 from by decide), ?_⟩
  refine List.forall_mem_cons.mpr ⟨fun k => (show (-2147483648 : Int) ≤ (-2147483648 : Int) ∧ (2147483647 : Int) ≤ 2147483647 from by decide), ?_⟩
  refine List.forall_mem_cons.mpr ⟨fun k => getD_P (by decide) (by decide) k, ?_⟩
  refine List.forall_mem_cons.mpr ⟨fun k => (show (-2147483648 : Int) ≤ (-2147483648 : Int) ∧ (2147483647 : Int) ≤ 2147483647 from by decide), ?_⟩
  refine List.forall_mem_cons.mpr ⟨fun k => (show (-2147483648 : Int) ≤ (-2147483648 : Int) ∧ (2147483647 : Int) ≤ 2147483647 from by decide), ?_⟩
  refine List.forall_mem_cons.mpr ⟨fun k => (show (-2147483648 : Int) ≤ (-2147483648 : Int) ∧ (2147483647 : Int) ≤ 2147483647 from by decide), ?_⟩
  refine List.forall_mem_cons.mpr ⟨fun k => (show (-2147483648 : Int) ≤ (0 : Int) ∧ (8 : Int) ≤ 2147483647 from by decide), ?_⟩
  refine List.forall_mem_cons.mpr ⟨fun k => (show (-2147483648 : Int) ≤ (-2147483648 : Int) ∧ (2147483647 : Int) ≤ 2147483647 from by decide), ?_⟩
  refine List.forall_mem_cons.mpr ⟨fun k => getD_P (by decide) (by decide) k, ?_⟩
  refine List.forall_mem_cons.mpr ⟨fun k => (show (-2147483648 : Int) ≤ (-2147483648 : Int) ∧ (2147483647 : Int) ≤ 2147483647 from by decide), ?_⟩
  refine List.forall_mem_cons.mpr ⟨fun k => (show (-2147483648 : Int) ≤ (-2147483648 : Int) ∧ (2147483647 : Int) ≤ 2147483647 from by decide), ?_⟩
  refine List.forall_mem_cons.mpr ⟨fun k => (show (-2147483648 : Int) ≤ (-2147483648 : Int) ∧ (2147483647 : Int) ≤ 2147483647 from by decide), ?_⟩
  refine List.forall_mem_cons.mpr ⟨fun k => (show (-2147483648 : Int) ≤ (-2147483648 : Int) ∧ (2147483647 : Int) ≤ 2147483647 from by decide), ?_⟩
  refine List.forall_mem_cons.mpr ⟨fun k => (show (-2147483648 : Int) ≤ (-2147483648 : Int) ∧ (2147483647 : Int) ≤ 2147483647 from by decide), ?_⟩
  refine List.forall_mem_cons.mpr ⟨fun k => getD_P (by decide) (by decide) k, ?_⟩
  refine List.forall_mem_cons.mpr ⟨fun k => (show (-2147483648 : Int) ≤ (-128 : Int) ∧ (127 : Int) ≤ 2147483647 from by decide), ?_⟩
  refine List.forall_mem_cons.mpr ⟨fun k => (show (-2147483648 : Int) ≤ (-2147483648 : Int) ∧ (2147483647 : Int) ≤ 2147483647 from by decide), ?_⟩
  refine List.forall_mem_cons.mpr ⟨fun k => (show (-2147483648 : Int) ≤ (-2147483648 : Int) ∧ (2147483647 : Int) ≤ 2147483647 from by decide), ?_⟩
  refine List.forall_mem_cons.mpr ⟨fun k => (show (-2147483648 : Int) ≤ (0 : Int) ∧ (24 : Int) ≤ 2147483647 from by decide), ?_⟩
  refine List.forall_mem_cons.mpr ⟨fun k => (show (-2147483648 : Int) ≤ (0 : Int) ∧ (1 : Int) ≤ 2147483647 from by decide), ?_⟩
  refine List.forall_mem_cons.mpr ⟨fun k => (show (-2147483648 : Int) ≤ (0 : Int) ∧ (23 : Int) ≤ 2147483647 from by decide), ?_⟩
  refine List.forall_mem_cons.mpr ⟨fun k => (show (-2147483648 : Int) ≤ (-2147483648 : Int) ∧ (2147483647 : Int) ≤ 2147483647 from by decide), ?_⟩
  refine List.forall_mem_cons.mpr ⟨fun k => (show (-2147483648 : Int) ≤ (-2147483648 : Int) ∧ (2147483647 : Int) ≤ 2147483647 from by decide), ?_⟩
  refine List.forall_mem_cons.mpr ⟨fun k => (show (-2147483648 : Int) ≤ (0 : Int) ∧ (5000 : Int) ≤ 2147483647 from by decide), ?_⟩
  refine List.forall_mem_cons.mpr ⟨fun k => (show (-2147483648 : Int) ≤ (-9 : Int) ∧ (9 : Int) ≤ 2147483647 from by decide), ?_⟩
  refine List.forall_mem_cons.mpr ⟨fun k => (show (-2147483648 : Int) ≤ (0 : Int) ∧ (12 : Int) ≤ 2147483647 from by decide), ?_⟩
  refine List.forall_mem_cons.mpr ⟨fun k => (show (-2147483648 : Int) ≤ (0 : Int) ∧ (100000 : Int) ≤ 2147483647 from by decide), ?_⟩
  refine List.forall_mem_cons.mpr ⟨fun k => (show (-2147483648 : Int) ≤ (0 : Int) ∧ (9 : Int) ≤ 2147483647 from by decide), ?_⟩
  refine List.forall_mem_cons.mpr ⟨fun k => (show (-2147483648 : Int) ≤ (-2147483648 : Int) ∧ (2147483647 : Int) ≤ 2147483647 from by decide), ?_⟩
  refine List.forall_mem_cons.mpr ⟨fun k => (show (-2147483648 : Int) ≤ (-2147483648 : Int) ∧ (2147483647 : Int) ≤ 2147483647 from by decide), ?_⟩
  refine List.forall_mem_cons.mpr ⟨fun k => (show (-2147483648 : Int) ≤ (-2147483648 : Int) ∧ (2147483647 : Int) ≤ 2147483647 from by decide), ?_⟩
  refine List.forall_mem_cons.mpr ⟨fun k => (show (-2147483648 : Int) ≤ (0 : Int) ∧ (8 : Int) ≤ 2147483647 from by decide), ?_⟩
  refine List.forall_mem_cons.mpr ⟨fun k => (show (-2147483648 : Int) ≤ (-2147483648 : Int) ∧ (2147483647 : Int) ≤ 2147483647 from by decide), ?_⟩
  refine List.forall_mem_cons.mpr ⟨fun k => (show (-2147483648 : Int) ≤ (0 : Int) ∧ (24 : Int) ≤ 2147483647 from by decide), ?_⟩
  refine List.forall_mem_cons.mpr ⟨fun k => (show (-2147483648 : Int) ≤ (-2147483648 : Int) ∧ (2147483647 : Int) ≤ 2147483647 from by decide), ?_⟩
  refine List.forall_mem_cons.mpr ⟨fun k => (show (-2147483648 : Int) ≤ (-2147483648 : Int) ∧ (2147483647 : Int) ≤ 2147483647 from by decide), ?_⟩
  refine List.forall_mem_cons.mpr ⟨fun k => (show (-2147483648 : Int) ≤ (-2147483648 : Int) ∧ (2147483647 : Int) ≤ 2147483647 from by decide), ?_⟩
  refine List.forall_mem_cons.mpr ⟨fun k => (show (-2147483648 : Int) ≤ (-2147483648 : Int) ∧ (2147483647 : Int) ≤ 2147483647 from by decide), ?_⟩
  refine List.forall_mem_cons.mpr ⟨fun k => (show (-2147483648 : Int) ≤ (0 : Int) ∧ (24 : Int) ≤ 2147483647 from by decide), ?_⟩
  refine List.forall_mem_cons.mpr ⟨fun k => (show (-2147483648 : Int) ≤ (-2147483648 : Int) ∧ (2147483647 : Int) ≤ 2147483647 from by decide), ?_⟩
  refine List.forall_mem_cons.mpr ⟨fun k => (show (-2147483648 : Int) ≤ (0 : Int) ∧ (24 : Int) ≤ 2147483647 from by decide), ?_⟩
  refine List.forall_mem_cons.mpr ⟨fun k => (show (-2147483648 : Int) ≤ (-2147483648 : Int) ∧ (2147483647 : Int) ≤ 2147483647 from by decide), ?_⟩
  refine List.forall_mem_cons.mpr ⟨fun k => (show (-2147483648 : Int) ≤ (0 : Int) ∧ (268435456 : Int) ≤ 2147483647 from by decide), ?_⟩
  refine List.forall_mem_cons.mpr ⟨fun k => (show (-2147483648 : Int) ≤ (0 : Int) ∧ (63 : Int) ≤ 2147483647 from by decide), ?_⟩
  refine List.forall_mem_cons.mpr ⟨fun k => (show (-2147483648 : Int) ≤ (-2147483648 : Int) ∧ (2147483647 : Int) ≤ 2147483647 from by decide), ?_⟩
  refine List.forall_mem_cons.mpr ⟨fun k => (show (-2147483648 : Int) ≤ (-2147483648 : Int) ∧ (2147483647 : Int) ≤ 2147483647 from by decide), ?_⟩
  refine List.forall_mem_cons.mpr ⟨fun k => (show (-2147483648 : Int) ≤ (-2147483648 : Int) ∧ (2147483647 : Int) ≤ 2147483647 from by decide), ?_⟩
  refine List.forall_mem_cons.mpr ⟨fun k => (show (-2147483648 : Int) ≤ (-2147483648 : Int) ∧ (2147483647 : Int) ≤ 2147483647 from by decide), ?_⟩
  exact fun _ h => absurd h List.not_mem_nil
theorem cbt_ok (q k : Nat) : -2147483648 ≤ (cbt q k).1 ∧ (cbt q k).2 ≤ 2147483647 := by
  unfold cbt
  rw [List.getD_eq_getElem?_getD]
  cases e : cbL[q]? with
  | none => exact ⟨show (-2147483648 : Int) ≤ -2147483648 by decide, show (2147483647 : Int) ≤ 2147483647 by decide⟩
  | some f => exact cbL_ok f (List.mem_of_getElem? e) k
def BN (w : zW) (M : zM) : Prop := ∀ j k, (cbt (zcd w j) k).1 ≤ M j k ∧ M j k ≤ (cbt (zcd w j) k).2
theorem BN.at {w : zW} {M : zM} (h : BN w M) {j k q : Nat} {lo hi : Int} (hc : zcd w j = q) (e : cbt q k = (lo, hi)) : lo ≤ M j k ∧ M j k ≤ hi := by
  have h1 := h j k
  rw [hc, e] at h1
  exact h1
theorem BN.up {w : zW} {M : zM} (h : BN w M) {j k q : Nat} {lo hi v : Int} (hc : zcd w j = q) (e : cbt q k = (lo, hi)) (h1 : lo ≤ v) (h2 : v ≤ hi) : BN w (zup M j k v) := by
  intro a b
  by_cases hab : a = j ∧ b = k
  · obtain ⟨rfl, rfl⟩ := hab
    rw [zup_s, hc, e]
    exact ⟨h1, h2⟩
  · rw [zup_n M v hab]
    exact h a b
theorem BN.cp {w : zW} {M : zM} (h : BN w M) {j0 j1 sp dp n q : Nat} (hc : zcd w j1 = q) (e : ∀ k, cbt q k = (-2147483648, 2147483647)) (h0 : ∀ k, -2147483648 ≤ M j0 k ∧ M j0 k ≤ 2147483647) : BN w (zcp M j0 j1 sp dp n) := by
  intro a b
  unfold zcp
  by_cases hab : a = j1 ∧ dp ≤ b ∧ b < dp + n
  · rw [if_pos hab]
    obtain ⟨rfl, -⟩ := hab
    rw [hc, e]
    exact h0 _
  · rw [if_neg hab]
    exact h a b
theorem zcp_row {M : zM} {j0 j1 sp dp n a : Nat} (h : a ≠ j1) : zcp M j0 j1 sp dp n a = M a := by
  funext b
  unfold zcp
  rw [if_neg (fun q => h q.1)]
/-- the model's: and rings are not empty -/
def BI (M : zM) : Prop := BN wR M ∧ ∀ k : Nat, k < 4 → (k : Int) < M 0 10 → 1 ≤ M 4 k
theorem BI.up {M : zM} (h : BI M) {j k q : Nat} {lo hi v : Int} (hc : zcd wR j = q) (e : cbt q k = (lo, hi)) (h1 : lo ≤ v) (h2 : v ≤ hi) (hj : j ≠ 4 ∧ j ≠ 0) : BI (zup M j k v) := by
  refine ⟨h.1.up hc e h1 h2, fun i hi hr => ?_⟩
  rw [zup_n M v (fun q => hj.2 q.1.symm)] at hr
  rw [zup_n M v (fun q => hj.1 q.1.symm)]
  exact h.2 i hi hr
theorem BI.up0 {M : zM} (h : BI M) {k : Nat} {lo hi v : Int} (e : cbt 50 k = (lo, hi)) (h1 : lo ≤ v) (h2 : v ≤ hi) (hk : k ≠ 10) : BI (zup M 0 k v) := by
  refine ⟨h.1.up (rfl : zcd wR 0 = 50) e h1 h2, fun i hi hr => ?_⟩
  rw [zup_n M v (fun q => hk q.2.symm)] at hr
  rw [zup_n M v (fun q => absurd q.1 (by decide))]
  exact h.2 i hi hr
theorem BI.up4 {M : zM} (h : BI M) {k : Nat} {v : Int} (h1 : 1 ≤ v) (h2 : v ≤ 24) : BI (zup M 4 k v) := by
  refine ⟨h.1.up (rfl : zcd wR 4 = 54) (rfl : cbt 54 k = (0, 24)) (by omega) h2, fun i hi hr => ?_⟩
  rw [zup_n M v (fun q => absurd q.1 (by decide))] at hr
  by_cases hk : i = k
  · subst hk
    rw [zup_s]
    exact h1
  · rw [zup_n M v (fun q => hk q.2)]
    exact h.2 i hi hr
theorem BI.up10 {M : zM} (h : BI M) {v : Int} (h1 : v ≤ 0) (h2 : 0 ≤ v) : BI (zup M 0 10 v) := by
  refine ⟨h.1.up (rfl : zcd wR 0 = 50) (rfl : cbt 50 10 = (0, 4)) h2 (by omega), fun i hi hr => ?_⟩
  rw [zup_s] at hr
  omega
theorem BI.upR {M : zM} (h : BI M) {v : Int} (hv : v = M 0 10 + 1) (h4 : v ≤ 4) (h1 : 1 ≤ M 4 (M 0 10).toNat) : BI (zup M 0 10 v) := by
  have b : 0 ≤ M 0 10 ∧ M 0 10 ≤ 4 := BN.at h.1 (rfl : zcd wR 0 = 50) rfl
  refine ⟨h.1.up (rfl : zcd wR 0 = 50) (rfl : cbt 50 10 = (0, 4)) (by omega) h4, fun i hi hr => ?_⟩
  rw [zup_s] at hr
  rw [zup_n M v (fun q => absurd q.1 (by decide))]
  by_cases hk : (i : Int) < M 0 10
  · exact h.2 i hi hk
  · rw [show i = (M 0 10).toNat by omega]
    exact h1
theorem tmodN (x y : Int) (h1 : 0 ≤ x) (h2 : 1 ≤ y) : 0 ≤ x.tmod y ∧ x.tmod y < y := by
  rw [Int.tmod_eq_emod_of_nonneg h1]
  exact ⟨Int.emod_nonneg x (by omega), Int.emod_lt_of_pos x (by omega)⟩
theorem emB (x y : Int) (h : 0 < y) : 0 ≤ x % y ∧ x % y < y := ⟨Int.emod_nonneg x (by omega), Int.emod_lt_of_pos x h⟩
theorem tdivB (x y : Int) (h1 : 0 ≤ x) (h2 : 1 ≤ y) : 0 ≤ x.tdiv y ∧ x.tdiv y ≤ x := by
  rw [Int.tdiv_eq_ediv_of_nonneg h1]
  exact ⟨Int.ediv_nonneg h1 (by omega), Int.ediv_le_self y h1⟩
theorem absI_b (x : Int) : 0 ≤ absI x ∧ (absI x = x ∨ absI x = -x) := by
  unfold absI
  split <;> omega
theorem mulB (a b x y : Int) (h1 : 0 ≤ x) (h2 : x ≤ a) (h3 : 0 ≤ y) (h4 : y ≤ b) : 0 ≤ x * y ∧ x * y ≤ a * b := ⟨Int.mul_nonneg h1 h3, Int.mul_le_mul h2 h4 h3 (Int.le_trans h1 h2)⟩
theorem andI_br (x : Int) {c : Int} (h1 : 0 ≤ c) (h2 : c ≤ 2147483647) : 0 ≤ andI x c ∧ andI x c ≤ c := zand_r (x := x) h1 h2 (andI_R x c) (by unfold andI; rw [iI_e])
theorem BN.r32 {w : zW} {M : zM} (h : BN w M) (j k : Nat) : -2147483648 ≤ M j k ∧ M j k ≤ 2147483647 := by
  have h1 := h j k
  have h2 := cbt_ok (zcd w j) k
  omega
theorem iI_nat {x : Int} (h0 : 0 ≤ x) (h1 : x ≤ 2147483647) : (iI x).toBitVec.toNat = x.toNat := by
  have ht : (iI x).toInt = x := iI_t ⟨by omega, h1⟩
  have h3 : (iI x).toBitVec.toInt = x := ht
  rw [BitVec.toInt_eq_toNat_cond] at h3
  split at h3
  · omega
  · have := (iI x).toBitVec.isLt
    omega
theorem i32_nat {a : Int32} {n : Nat} (h : a.toBitVec.toNat = n) (hn : n ≤ 2147483647) : a.toInt = n := by
  show a.toBitVec.toInt = n
  rw [BitVec.toInt_eq_toNat_cond, h]
  split
  · rfl
  · omega
theorem orI_nat {x y : Int} (hx : 0 ≤ x) (hx2 : x ≤ 2147483647) (hy : 0 ≤ y) (hy2 : y ≤ 2147483647) : orI x y = ((x.toNat ||| y.toNat : Nat) : Int) := by
  unfold orI
  refine i32_nat ?_ ?_
  · rw [Int32.toBitVec_or, BitVec.toNat_or, iI_nat hx hx2, iI_nat hy hy2]
  · have h : x.toNat ||| y.toNat < 2 ^ 31 := Nat.or_lt_two_pow (by omega) (by omega)
    omega
theorem or64 (x y : Int) (h1 : 0 ≤ x) (h2 : x ≤ 63) (h3 : 0 ≤ y) (h4 : y ≤ 63) : 0 ≤ orI x y ∧ orI x y ≤ 63 := by
  rw [orI_nat h1 (by omega) h3 (by omega)]
  have h : x.toNat ||| y.toNat < 2 ^ 6 := Nat.or_lt_two_pow (by omega) (by omega)
  omega
theorem andI_le (x y : Int) (h1 : 0 ≤ x) (h2 : x ≤ 2147483647) : 0 ≤ andI x y ∧ andI x y ≤ x := by
  have h : (iI x &&& iI y).toBitVec.toNat ≤ x.toNat := by
    rw [Int32.toBitVec_and, BitVec.toNat_and, iI_nat h1 h2]
    exact Nat.and_le_left
  have h5 := i32_nat (a := iI x &&& iI y) rfl (by omega)
  unfold andI
  omega
theorem shl01 (b n : Int) (h1 : 0 ≤ b) (h2 : b ≤ 1) (h3 : 0 ≤ n) (h4 : n ≤ 5) : 0 ≤ shlI b n ∧ shlI b n ≤ 32 := by
  have hb : b = 0 ∨ b = 1 := by omega
  have h : n = 0 ∨ n = 1 ∨ n = 2 ∨ n = 3 ∨ n = 4 ∨ n = 5 := by omega
  rcases hb with rfl | rfl <;> rcases h with rfl | rfl | rfl | rfl | rfl | rfl <;> decide
theorem tmodB (x y : Int) (h : 0 < y) : -y < x.tmod y ∧ x.tmod y < y := by
  have h1 := Int.natAbs_tmod x y
  have h2 := Nat.mod_lt x.natAbs (show y.natAbs > 0 by omega)
  omega
end zz29_sbase
section zz30_C00
set_option maxHeartbeats 4000000 in
set_option maxRecDepth 100000 in
theorem sC_Splicer_isDigit {M : zM} {a0 : Int} {a1 : Int} (hB : BN wC M) (v0 : (-2147483648) ≤ a0 ∧ a0 ≤ 2147483647) (v1 : (-2147483648) ≤ a1 ∧ a1 ≤ 2147483647) {Q : Int → Prop} (hQ : ∀ (z : Int), (0 ≤ z ∧ z ≤ 1) ∧ ((z = 1 ∧ a1 ≤ a0 ∧ a0 ≤ 57) ∨ (z = 0 ∧ ¬ (a1 ≤ a0 ∧ a0 ≤ 57))) ∧ True → Q z) : wC_Splicer_isDigit a0 a1 M Q := by
  unfold wC_Splicer_isDigit
  have s1 : sI a0 = a0 := sIo (by omega) (by omega)
  have s2 : sI a1 = a1 := sIo (by omega) (by omega)
  refine ⟨fun c3 => ?_, fun c3 => ?_⟩
  · skip
    exact hQ _ ⟨(by omega), (by omega), trivial⟩
  · skip
    refine ⟨fun c4 => ?_, fun c4 => ?_⟩
    · skip
      exact hQ _ ⟨(by omega), (by omega), trivial⟩
    · skip
      exact hQ _ ⟨(by omega), (by omega), trivial⟩
set_option maxHeartbeats 4000000 in
set_option maxRecDepth 100000 in
theorem sC_Strip_has {M : zM} {j : Nat} {a0 : Int} (hB : BN wC M) (lt_j : j < nC) (cd_j : zcd wC j = 6) (v0 : (-2147483648) ≤ a0 ∧ a0 ≤ 2147483647) {Q : Int → Prop} (hQ : ∀ (z : Int), (0 ≤ z ∧ z ≤ 1) ∧ ((z = 1 ∧ 0 ≤ a0 ∧ a0 < M j 1 ∧ a0 < 24) ∨ (z = 0 ∧ ¬ (0 ≤ a0 ∧ a0 < M j 1))) ∧ True → Q z) : wC_Strip_has j a0 M Q := by
  unfold wC_Strip_has
  obtain ⟨lt1, cd2⟩ := nx_strip j lt_j cd_j
  have s3 : sI a0 = a0 := sIo (by omega) (by omega)
  refine ⟨fun c4 => ?_, fun c4 => ?_⟩
  · skip
    exact hQ _ ⟨(by omega), (by omega), trivial⟩
  · skip
    have q5 : 0 ≤ (M j 1) ∧ (M j 1) ≤ 24 := BN.at hB cd_j rfl
    have s6 : sI (M j 1) = (M j 1) := sIo (by omega) (by omega)
    refine ⟨fun c7 => ?_, fun c7 => ?_⟩
    · skip
      exact hQ _ ⟨(by omega), (by omega), trivial⟩
    · skip
      refine ⟨fun c8 => ?_, fun c8 => ?_⟩
      · skip
        exact hQ _ ⟨(by omega), (by omega), trivial⟩
      · skip
        exact hQ _ ⟨(by omega), (by omega), trivial⟩
end zz30_C00
section zz30_C01
set_option maxHeartbeats 4000000 in
set_option maxRecDepth 100000 in
theorem sC_Strip_at {M : zM} {j : Nat} {a0 : Int} (hB : BN wC M) (lt_j : j < nC) (cd_j : zcd wC j = 6) (v0 : (-2147483648) ≤ a0 ∧ a0 ≤ 2147483647) {Q : Int → Prop} (hQ : ∀ (z : Int), ((-2147483648) ≤ z ∧ z ≤ 2147483647) ∧ True → Q z) : wC_Strip_at j a0 M Q := by
  unfold wC_Strip_at
  obtain ⟨lt1, cd2⟩ := nx_strip j lt_j cd_j
  refine sC_Strip_has hB lt_j cd_j (by omega) (fun z3  h4 => ?_)
  obtain ⟨p5, p6, -⟩ := h4
  refine ⟨fun c7 => ?_, fun c7 => ?_⟩
  · skip
    exact hQ _ ⟨(by omega), trivial⟩
  · skip
    have s8 : sI a0 = a0 := sIo (by omega) (by omega)
    have o9 : 0 ≤ (sI a0) ∧ (sI a0) < 24 := by omega
    refine ⟨o9, ?_⟩
    have q10 : (-2147483648) ≤ (M (j + 1) (sI a0).toNat) ∧ (M (j + 1) (sI a0).toNat) ≤ 2147483647 := BN.at hB cd2 rfl
    have s11 : sI (M (j + 1) (sI a0).toNat) = (M (j + 1) (sI a0).toNat) := sIo (by omega) (by omega)
    exact hQ _ ⟨(by omega), trivial⟩
set_option maxHeartbeats 4000000 in
set_option maxRecDepth 100000 in
theorem sC_hand {M : zM} {a0 : Int} (hB : BN wC M) (v0 : (-2147483648) ≤ a0 ∧ a0 ≤ 2147483647) {Q : Int → Prop} (hQ : ∀ (z : Int), ((-2147483648) ≤ z ∧ z ≤ 2147483647) ∧ True → Q z) : wC_hand a0 M Q := by
  unfold wC_hand
  refine sC_Strip_at hB (by decide) (rfl : zcd wC 30 = 6) (by omega) (fun z1  h2 => ?_)
  obtain ⟨p3, -⟩ := h2
  exact hQ _ ⟨(by omega), trivial⟩
set_option maxHeartbeats 4000000 in
set_option maxRecDepth 100000 in
theorem sC_within {M : zM} {a0 : Int} {a1 : Int} {a2 : Int} (hB : BN wC M) (v0 : (-2147483648) ≤ a0 ∧ a0 ≤ 2147483647) (v1 : (-2147483648) ≤ a1 ∧ a1 ≤ 2147483647) (v2 : (-2147483648) ≤ a2 ∧ a2 ≤ 2147483647) {Q : Int → Prop} (hQ : ∀ (z : Int), (0 ≤ z ∧ z ≤ 1) ∧ ((z = 1 ∧ a1 ≤ a0 ∧ a0 ≤ a2) ∨ (z = 0 ∧ ¬ (a1 ≤ a0 ∧ a0 ≤ a2))) ∧ True → Q z) : wC_within a0 a1 a2 M Q := by
  unfold wC_within
  have s1 : sI a0 = a0 := sIo (by omega) (by omega)
  have s2 : sI a1 = a1 := sIo (by omega) (by omega)
  refine ⟨fun c3 => ?_, fun c3 => ?_⟩
  · skip
    exact hQ _ ⟨(by omega), (by omega), trivial⟩
  · skip
    have s4 : sI a2 = a2 := sIo (by omega) (by omega)
    refine ⟨fun c5 => ?_, fun c5 => ?_⟩
    · skip
      exact hQ _ ⟨(by omega), (by omega), trivial⟩
    · skip
      exact hQ _ ⟨(by omega), (by omega), trivial⟩
set_option maxHeartbeats 4000000 in
set_option maxRecDepth 100000 in
theorem sC_isMotor {M : zM} {a0 : Int} (hB : BN wC M) (v0 : (-2147483648) ≤ a0 ∧ a0 ≤ 2147483647) {Q : Int → Prop} (hQ : ∀ (z : Int), (0 ≤ z ∧ z ≤ 1) ∧ ((z = 1 ∧ 0 ≤ a0 ∧ a0 ≤ 1) ∨ (z = 0 ∧ ¬ (0 ≤ a0 ∧ a0 ≤ 1))) ∧ True → Q z) : wC_isMotor a0 M Q := by
  unfold wC_isMotor
  refine sC_within hB (by omega) (by omega) (by omega) (fun z1  h2 => ?_)
  obtain ⟨p3, p4, -⟩ := h2
  exact hQ _ ⟨(by omega), (by omega), trivial⟩
theorem sC_by {M : zM} {a0 a1 : Int} (hB : BN wC M) (v1 : -2147483648 ≤ a1 ∧ a1 ≤ 2147483647) {Q : Int → Prop} (hQ : ∀ z, ((0 ≤ z ∧ z ≤ 2147483646) ∧ (1 ≤ a1 → z < a1) ∧ (a1 < 1 → z = 0) ∧ True) → Q z) : wC_by a0 a1 M Q := by
  unfold wC_by
  have s1 : sI a1 = a1 := sIo (by omega) (by omega)
  rw [s1]
  refine ⟨fun c => ?_, fun c => hQ _ ⟨by omega, by omega, by omega, trivial⟩⟩
  have t := tmodB (sL a0) a1 (by omega)
  have s2 : sI ((sL a0).tmod a1) = (sL a0).tmod a1 := sIo (by omega) (by omega)
  have s3 : (sL a0).tmod a1 < 0 → sI ((sL a0).tmod a1 + a1) = (sL a0).tmod a1 + a1 := fun h => sIo (by omega) (by omega)
  refine ⟨by omega, fun c2 => hQ _ ⟨by omega, by omega, by omega, trivial⟩, fun c2 => ?_⟩
  have s4 := s3 (by omega)
  exact hQ _ ⟨by omega, by omega, by omega, trivial⟩
theorem sC_Studio_find {M : zM} {a0 : Int} (hB : BN wC M) (v0 : -2147483648 ≤ a0 ∧ a0 ≤ 2147483647) {Q : Option Nat → Prop} (hn : (a0 < 0 ∨ M 32 2 ≤ a0) → Q none) (hs : ∀ q, ((q < nC ∧ zcd wC q = 14) ∧ (q = 41 + 4 * a0.toNat ∧ 0 ≤ a0 ∧ a0 < M 32 2 ∧ a0 < 4)) → Q (some q)) : wC_Studio_find a0 M Q := by
  unfold wC_Studio_find
  have b : 0 ≤ M 32 2 ∧ M 32 2 ≤ 4 := BN.at hB (rfl : zcd wC 32 = 8) rfl
  have s1 : sI a0 = a0 := sIo (by omega) (by omega)
  have s2 : sI (M 32 2) = M 32 2 := sIo (by omega) (by omega)
  rw [s1, s2]
  refine ⟨fun c => hn (by omega), fun c => ⟨fun c2 => hn (by omega), fun c2 => ⟨fun c3 => absurd c3 (by omega), fun c3 => ⟨by omega, ?_⟩⟩⟩⟩
  exact hs _ ⟨(by decide : ∀ k : Nat, k < 4 → 41 + 4 * k < nC ∧ zcd wC (41 + 4 * k) = 14) _ (by omega), rfl, c, c2, c3⟩
theorem sC_Studio_motorOf {M : zM} {a0 : Int} (hB : BN wC M) (v0 : -2147483648 ≤ a0 ∧ a0 ≤ 2147483647) {Q : Option Nat → Prop} (hs : ∀ q, ((q < nC ∧ zcd wC q = 11) ∧ ((q = 35 ∧ a0 = 0) ∨ (q = 38 ∧ a0 ≠ 0))) → Q (some q)) : wC_Studio_motorOf a0 M Q := by
  unfold wC_Studio_motorOf
  have s1 : sI a0 = a0 := sIo (by omega) (by omega)
  rw [s1]
  exact ⟨fun c => hs _ ⟨by decide, Or.inr ⟨rfl, c⟩⟩, fun c => hs _ ⟨by decide, Or.inl ⟨rfl, c⟩⟩⟩
set_option maxHeartbeats 4000000 in
set_option maxRecDepth 100000 in
theorem sC_Motor_forget {M : zM} {j : Nat} (hB : BN wC M) (lt_j : j < nC) (cd_j : zcd wC j = 11) {Q : zM → Prop} (hQ : ∀ (M1 : zM), BN wC M1 ∧ (∀ j9 : Nat, ¬ (j9 = j) → M1 j9 = M j9) ∧ (M1 j 2 = 0) ∧ True → Q M1) : wC_Motor_forget j M Q := by
  unfold wC_Motor_forget
  have hF0 : ∀ j9 : Nat, ¬ (j9 = j) → M j9 = M j9 := fun j9 _ => rfl
  obtain ⟨lt1, cd2, lt3, cd4⟩ := nx_motor j lt_j cd_j
  intro M5 e6
  have hB7 : BN wC M5 := by rw [e6]; exact BN.up hB cd_j rfl (by omega) (by omega)
  have hF8 : ∀ j9 : Nat, ¬ (j9 = j) → M5 j9 = M j9 := fun j9 h9 => by rw [e6]; exact (zup_row _ _ (by omega)).trans (hF0 j9 h9)
  have r9 : M5 j 2 = 0 := by rw [e6]; exact zup_s _ _ _ _
  exact hQ _ ⟨hB7, hF8, (by omega), trivial⟩
theorem sC_Studio_empty {M : zM} (hB : BN wC M) {Q : Int → zM → Prop} (hQ : ∀ z M1, (BN wC M1 ∧ (∀ j9 : Nat, ¬ (j9 = 32 ∨ j9 = 35 ∨ j9 = 38) → M1 j9 = M j9) ∧ (-2147483648 ≤ z ∧ z ≤ 2147483647) ∧ z = M 32 2 ∧ M1 32 2 = 0 ∧ M1 35 2 = 0 ∧ M1 38 2 = 0 ∧ True) → Q z M1) : wC_Studio_empty M Q := by
  unfold wC_Studio_empty
  intro M1 e1
  have hB1 : BN wC M1 := by rw [e1]; exact BN.up hB (rfl : zcd wC 32 = 8) rfl (by omega) (by omega)
  have b : 0 ≤ M 32 2 ∧ M 32 2 ≤ 4 := BN.at hB (rfl : zcd wC 32 = 8) rfl
  have s1 : sI (M 32 2) = M 32 2 := sIo (by omega) (by omega)
  refine wL1_of (fun x N => BN wC N ∧ (∀ j9 : Nat, ¬ (j9 = 32 ∨ j9 = 35 ∨ j9 = 38) → N j9 = M j9) ∧ (0 ≤ x ∧ x ≤ 2) ∧ N 32 2 = 0 ∧ (1 ≤ x → N 35 2 = 0) ∧ (2 ≤ x → N 38 2 = 0)) (fun x _ => (100 - x).toNat) ⟨hB1, fun j9 h9 => by rw [e1]; exact zup_row _ _ (by omega), by omega, by rw [e1, zup_s], fun h => absurd h (by omega), fun h => absurd h (by omega)⟩ (fun K x N hI hK => ?_)
  obtain ⟨hBN, FN, ix, i32, i35, i38⟩ := hI
  have sx : sI x = x := sIo (by omega) (by omega)
  rw [sx, s1]
  refine ⟨fun c => hQ _ _ ⟨hBN, FN, by omega, rfl, i32, i35 (by omega), i38 (by omega), trivial⟩, fun c => ⟨by omega, ?_⟩⟩
  have hx : x = 0 ∨ x = 1 := by omega
  rcases hx with rfl | rfl
  · refine sC_Motor_forget (j := 35) hBN (by decide) (rfl : zcd wC 35 = 11) (fun M20 hp => ?_)
    obtain ⟨h1, h2, h3, -⟩ := hp
    exact hK _ _ ⟨h1, fun j9 h9 => (h2 j9 (by omega)).trans (FN j9 h9), by omega, by rw [h2 32 (by omega)]; exact i32, fun _ => h3, fun h => absurd h (by omega)⟩ (by omega)
  · refine sC_Motor_forget (j := 38) hBN (by decide) (rfl : zcd wC 38 = 11) (fun M20 hp => ?_)
    obtain ⟨h1, h2, h3, -⟩ := hp
    exact hK _ _ ⟨h1, fun j9 h9 => (h2 j9 (by omega)).trans (FN j9 h9), by omega, by rw [h2 32 (by omega)]; exact i32, fun _ => by rw [h2 35 (by omega)]; exact i35 (by omega), fun _ => h3⟩ (by omega)
set_option maxHeartbeats 4000000 in
set_option maxRecDepth 100000 in
theorem sC_clear {M : zM}  (hB : BN wC M)  {Q : Int → zM → Prop} (hQ : ∀ (z : Int) (M1 : zM), BN wC M1 ∧ (∀ j9 : Nat, ¬ (j9 = 32 ∨ j9 = 35 ∨ j9 = 38 ∨ j9 = 60) → M1 j9 = M j9) ∧ ((-2147483648) ≤ z ∧ z ≤ 2147483647) ∧ (z = M 32 2) ∧ (M1 60 2 = 0) ∧ (M1 32 2 = 0) ∧ (M1 35 2 = 0) ∧ (M1 38 2 = 0) ∧ True → Q z M1) : wC_clear  M Q := by
  unfold wC_clear
  have hF0 : ∀ j9 : Nat, ¬ (j9 = 32 ∨ j9 = 35 ∨ j9 = 38 ∨ j9 = 60) → M j9 = M j9 := fun j9 _ => rfl
  intro M1 e2
  have hB3 : BN wC M1 := by rw [e2]; exact BN.up hB (rfl : zcd wC 60 = 19) rfl (by omega) (by omega)
  have hF4 : ∀ j9 : Nat, ¬ (j9 = 32 ∨ j9 = 35 ∨ j9 = 38 ∨ j9 = 60) → M1 j9 = M j9 := fun j9 h9 => by rw [e2]; exact (zup_row _ _ (by omega)).trans (hF0 j9 h9)
  have r5 : M1 60 2 = 0 := by rw [e2]; exact zup_s _ _ _ _
  have r6 : M1 32 2 = M 32 2 := by rw [e2]; exact zup_n _ _ (by omega)
  have r7 : M1 35 2 = M 35 2 := by rw [e2]; exact zup_n _ _ (by omega)
  have r8 : M1 38 2 = M 38 2 := by rw [e2]; exact zup_n _ _ (by omega)
  refine sC_Studio_empty hB3  (fun z9 M10 h11 => ?_)
  obtain ⟨hB12, f13, p14, p15, p16, p17, p18, -⟩ := h11
  have hF19 : ∀ j9 : Nat, ¬ (j9 = 32 ∨ j9 = 35 ∨ j9 = 38 ∨ j9 = 60) → M10 j9 = M j9 := fun j9 h9 => ((f13 j9 (by omega)).trans (hF4 j9 h9))
  have r20 : M10 60 2 = M1 60 2 := congrFun (f13 60 (by omega)) 2
  exact hQ _ _ ⟨hB12, hF19, (by omega), (by omega), (by omega), (by omega), (by omega), (by omega), trivial⟩
set_option maxHeartbeats 4000000 in
set_option maxRecDepth 100000 in
theorem sC_count {M : zM} {a0 : Int} (hB : BN wC M) (v0 : (-2147483648) ≤ a0 ∧ a0 ≤ 2147483647) {Q : Int → Prop} (hQ : ∀ (z : Int), ((-2147483648) ≤ z ∧ z ≤ 2147483647) ∧ True → Q z) : wC_count a0 M Q := by
  unfold wC_count
  have s1 : sI a0 = a0 := sIo (by omega) (by omega)
  refine ⟨fun c2 => ?_, fun c2 => ?_⟩
  · skip
    have q3 : 0 ≤ (M 32 2) ∧ (M 32 2) ≤ 4 := BN.at hB (rfl : zcd wC 32 = 8) rfl
    have s4 : sI (M 32 2) = (M 32 2) := sIo (by omega) (by omega)
    exact hQ _ ⟨(by omega), trivial⟩
  refine ⟨fun c5 => ?_, fun c5 => ?_⟩
  · skip
    have q6 : 0 ≤ (M 60 2) ∧ (M 60 2) ≤ 6 := BN.at hB (rfl : zcd wC 60 = 19) rfl
    have s7 : sI (M 60 2) = (M 60 2) := sIo (by omega) (by omega)
    exact hQ _ ⟨(by omega), trivial⟩
  refine ⟨fun c8 => ?_, fun c8 => ?_⟩
  · skip
    have q9 : 0 ≤ (M 82 1) ∧ (M 82 1) ≤ 60 := BN.at hB (rfl : zcd wC 82 = 34) rfl
    have s10 : sI (M 82 1) = (M 82 1) := sIo (by omega) (by omega)
    exact hQ _ ⟨(by omega), trivial⟩
  refine ⟨fun c11 => ?_, fun c11 => ?_⟩
  · skip
    have q12 : 0 ≤ (M 86 0) ∧ (M 86 0) ≤ 5 := BN.at hB (rfl : zcd wC 86 = 38) rfl
    have s13 : sI (M 86 0) = (M 86 0) := sIo (by omega) (by omega)
    exact hQ _ ⟨(by omega), trivial⟩
  refine ⟨fun c14 => ?_, fun c14 => ?_⟩
  · skip
    have q15 : 0 ≤ (M 96 0) ∧ (M 96 0) ≤ 16 := BN.at hB (rfl : zcd wC 96 = 44) rfl
    have s16 : sI (M 96 0) = (M 96 0) := sIo (by omega) (by omega)
    exact hQ _ ⟨(by omega), trivial⟩
  refine ⟨fun c17 => ?_, fun c17 => ?_⟩
  · skip
    have q18 : 0 ≤ (M 0 10) ∧ (M 0 10) ≤ 40 := BN.at hB (rfl : zcd wC 0 = 0) rfl
    have s19 : sI (M 0 10) = (M 0 10) := sIo (by omega) (by omega)
    exact hQ _ ⟨(by omega), trivial⟩
  refine ⟨fun c20 => ?_, fun c20 => ?_⟩
  · skip
    have q21 : 0 ≤ (M 1 1) ∧ (M 1 1) ≤ 100 := BN.at hB (rfl : zcd wC 1 = 1) rfl
    have s22 : sI (M 1 1) = (M 1 1) := sIo (by omega) (by omega)
    exact hQ _ ⟨(by omega), trivial⟩
  refine ⟨fun c23 => ?_, fun c23 => ?_⟩
  · skip
    have q24 : 0 ≤ (M 30 1) ∧ (M 30 1) ≤ 24 := BN.at hB (rfl : zcd wC 30 = 6) rfl
    have s25 : sI (M 30 1) = (M 30 1) := sIo (by omega) (by omega)
    exact hQ _ ⟨(by omega), trivial⟩
  exact hQ _ ⟨(by omega), trivial⟩
set_option maxHeartbeats 4000000 in
set_option maxRecDepth 100000 in
theorem sC_Motor_lastSpeed {M : zM} {j : Nat} (hB : BN wC M) (lt_j : j < nC) (cd_j : zcd wC j = 11) {Q : Int → Prop} (hQ : ∀ (z : Int), ((-9) ≤ z ∧ z ≤ 9) ∧ True → Q z) : wC_Motor_lastSpeed j M Q := by
  unfold wC_Motor_lastSpeed
  obtain ⟨lt1, cd2, lt3, cd4⟩ := nx_motor j lt_j cd_j
  have q5 : 0 ≤ (M j 2) ∧ (M j 2) ≤ 12 := BN.at hB cd_j rfl
  have s6 : sI (M j 2) = (M j 2) := sIo (by omega) (by omega)
  refine ⟨fun c7 => ?_, fun c7 => ?_⟩
  · skip
    have s9 : sI ((M j 2) - 1) = ((M j 2) - 1) := sIo (by omega) (by omega)
    have o10 : 0 ≤ (sI ((M j 2) - 1)) ∧ (sI ((M j 2) - 1)) < 12 := by omega
    refine ⟨o10, ?_⟩
    have q11 : (-9) ≤ (M (j + 2) (sI ((M j 2) - 1)).toNat) ∧ (M (j + 2) (sI ((M j 2) - 1)).toNat) ≤ 9 := BN.at hB cd4 rfl
    have s12 : sI (M (j + 2) (sI ((M j 2) - 1)).toNat) = (M (j + 2) (sI ((M j 2) - 1)).toNat) := sIo (by omega) (by omega)
    exact hQ _ ⟨(by omega), trivial⟩
  · skip
    exact hQ _ ⟨(by omega), trivial⟩
set_option maxHeartbeats 4000000 in
set_option maxRecDepth 100000 in
theorem sC_greatestDivisor {M : zM} {a0 : Int} {a1 : Int} (hB : BN wC M) (v0 : (-1) ≤ a0 ∧ a0 ≤ 1000000) (v1 : (-9223372036854775808) ≤ a1 ∧ a1 ≤ 9223372036854775807) {Q : Int → Prop} (hQ : ∀ (z : Int), (1 ≤ z ∧ z ≤ 1000000) ∧ (z ≤ a0 ∨ z = 1) ∧ True → Q z) : wC_greatestDivisor a0 a1 M Q := by
  unfold wC_greatestDivisor
  refine pL1_of (fun x1 => ((-1) ≤ x1 ∧ x1 ≤ 1000000) ∧ (x1 ≤ a0) ∧ True) (fun x1 => (x1 + 1).toNat) ⟨(by omega), (by omega), trivial⟩ (fun K x1 h4 k5 => ?_)
  obtain ⟨i2, i3, -⟩ := h4
  have s6 : sI x1 = x1 := sIo (by omega) (by omega)
  refine ⟨fun c7 => ?_, fun c7 => ?_⟩
  · skip
    exact hQ _ ⟨(by omega), (by omega), trivial⟩
  · skip
    have s8 : sI a0 = a0 := sIo (by omega) (by omega)
    have o9 : (sI x1) ≠ 0 := by omega
    refine ⟨o9, ?_⟩
    have s10 := sI_R ((sI a0).tmod (sI x1))
    refine ⟨fun c11 => ?_, fun c11 => ?_⟩
    · skip
      exact k5 _ ⟨(by omega), (by omega), trivial⟩ (by omega)
    · skip
      have s12 : sL a1 = a1 := sLo (by omega) (by omega)
      have o13 : (sI x1) ≠ 0 := by omega
      refine ⟨o13, ?_⟩
      have s14 := sL_R ((sL a1).tmod (sI x1))
      refine ⟨fun c15 => ?_, fun c15 => ?_⟩
      · skip
        exact k5 _ ⟨(by omega), (by omega), trivial⟩ (by omega)
      · skip
        exact hQ _ ⟨(by omega), (by omega), trivial⟩
set_option maxHeartbeats 4000000 in
set_option maxRecDepth 100000 in
theorem sC_withoutShared {M : zM} {a0 : Int} {a1 : Int} (hB : BN wC M) (v0 : 0 ≤ a0 ∧ a0 ≤ 1000000) (v1 : (-9223372036854775808) ≤ a1 ∧ a1 ≤ 9223372036854775807) {Q : Int → Prop} (hQ : ∀ (z : Int), (0 ≤ z ∧ z ≤ 1000000) ∧ (z ≤ a0) ∧ True → Q z) : wC_withoutShared a0 a1 M Q := by
  unfold wC_withoutShared
  refine sC_greatestDivisor hB (by omega) (by omega) (fun z1  h2 => ?_)
  obtain ⟨p3, p4, -⟩ := h2
  refine ⟨fun c5 => ?_, fun c5 => ?_⟩
  · skip
    have s6 : sI a0 = a0 := sIo (by omega) (by omega)
    have o7 : z1 ≠ 0 := by omega
    refine ⟨o7, ?_⟩
    have q8 := tdivB (sI a0) z1 (by omega) (by omega)
    have s9 : sI ((sI a0).tdiv z1) = ((sI a0).tdiv z1) := sIo (by omega) (by omega)
    exact hQ _ ⟨(by omega), (by omega), trivial⟩
  · skip
    have s10 : sI a0 = a0 := sIo (by omega) (by omega)
    exact hQ _ ⟨(by omega), (by omega), trivial⟩
end zz30_C01
section zz30_C02
/-! safety of the class, 2 -/
set_option maxHeartbeats 4000000 in
set_option maxRecDepth 100000 in
theorem sC_Motor_round {M : zM} {j : Nat} {a0 : Int} (hB : BN wC M) (lt_j : j < nC) (cd_j : zcd wC j = 11) (v0 : 0 ≤ a0 ∧ a0 ≤ 24) {Q : Int → Prop} (hQ : ∀ (z : Int), (0 ≤ z ∧ z ≤ 24) ∧ True → Q z) : wC_Motor_round j a0 M Q := by
  unfold wC_Motor_round
  obtain ⟨lt1, cd2, lt3, cd4⟩ := nx_motor j lt_j cd_j
  refine sC_Motor_lastSpeed hB lt_j cd_j (fun z5  h6 => ?_)
  obtain ⟨p7, -⟩ := h6
  refine sC_withoutShared hB (by omega) (by omega) (fun z8  h9 => ?_)
  obtain ⟨p10, p11, -⟩ := h9
  exact hQ _ ⟨(by omega), trivial⟩
set_option maxHeartbeats 4000000 in
set_option maxRecDepth 100000 in
theorem sC_Studio_roundOf {M : zM} {a0 : Nat} (hB : BN wC M) (lt_a0 : a0 < nC) (cd_a0 : zcd wC a0 = 14) {Q : Int → Prop} (hQ : ∀ (z : Int), (0 ≤ z ∧ z ≤ 24) ∧ True → Q z) : wC_Studio_roundOf a0 M Q := by
  unfold wC_Studio_roundOf
  obtain ⟨lt1, cd2, lt3, cd4, lt5, cd6⟩ := nx_ring a0 lt_a0 cd_a0
  have q7 : 0 ≤ (M a0 1) ∧ (M a0 1) ≤ 1 := BN.at hB cd_a0 rfl
  refine sC_Studio_motorOf hB (by omega) (fun q8 h9 => ?_)
  obtain ⟨⟨lt10, cd11⟩, h9⟩ := h9
  refine ⟨q8, rfl, ⟨lt10, cd11⟩, ?_⟩
  obtain ⟨lt12, cd13, lt14, cd15⟩ := nx_motor q8 lt10 cd11
  have q16 : 0 ≤ (M (a0 + 1) 1) ∧ (M (a0 + 1) 1) ≤ 24 := BN.at hB cd2 rfl
  refine sC_Motor_round hB lt10 cd11 (by omega) (fun z17  h18 => ?_)
  obtain ⟨p19, -⟩ := h18
  exact hQ _ ⟨(by omega), trivial⟩
set_option maxHeartbeats 4000000 in
set_option maxRecDepth 100000 in
theorem sC_of {M : zM} {a0 : Int} {a1 : Int} (hB : BN wC M) (v0 : (-2147483648) ≤ a0 ∧ a0 ≤ 2147483647) (v1 : (-2147483648) ≤ a1 ∧ a1 ≤ 2147483647) {Q : Int → Prop} {X : Prop} (hX : X) (hQ : ∀ (z : Int), ((-2147483648) ≤ z ∧ z ≤ 2147483647) ∧ True → Q z) : wC_of a0 a1 M Q X := by
  unfold wC_of
  refine sC_Studio_find hB (by omega) (fun h2 => ?_) (fun q1 h2 => ?_)
  · skip
    refine ⟨fun _ => ?_, fun q9 h9 => nomatch h9⟩
    exact hX
  · skip
    refine ⟨(fun h9 => nomatch h9), fun q9 h9 => ?_⟩
    obtain rfl := Option.some.inj h9
    obtain ⟨⟨lt3, cd4⟩, h2⟩ := h2
    refine ⟨⟨lt3, cd4⟩, ?_⟩
    obtain ⟨lt5, cd6, lt7, cd8, lt9, cd10⟩ := nx_ring q1 lt3 cd4
    have s11 : sI a1 = a1 := sIo (by omega) (by omega)
    refine ⟨fun c12 => ?_, fun c12 => ?_⟩
    · skip
      have q13 : 0 ≤ (M (q1 + 1) 1) ∧ (M (q1 + 1) 1) ≤ 24 := BN.at hB cd6 rfl
      have s14 : sI (M (q1 + 1) 1) = (M (q1 + 1) 1) := sIo (by omega) (by omega)
      exact hQ _ ⟨(by omega), trivial⟩
    refine ⟨fun c15 => ?_, fun c15 => ?_⟩
    · skip
      have q16 : 0 ≤ (M q1 1) ∧ (M q1 1) ≤ 1 := BN.at hB cd4 rfl
      have s17 : sI (M q1 1) = (M q1 1) := sIo (by omega) (by omega)
      exact hQ _ ⟨(by omega), trivial⟩
    refine ⟨fun c18 => ?_, fun c18 => ?_⟩
    · skip
      have q19 : 0 ≤ (M q1 2) ∧ (M q1 2) ≤ 23 := BN.at hB cd4 rfl
      have s20 : sI (M q1 2) = (M q1 2) := sIo (by omega) (by omega)
      exact hQ _ ⟨(by omega), trivial⟩
    refine ⟨fun c21 => ?_, fun c21 => ?_⟩
    · skip
      have q22 : (-2147483648) ≤ (M q1 3) ∧ (M q1 3) ≤ 2147483647 := BN.at hB cd4 rfl
      have s23 : sI (M q1 3) = (M q1 3) := sIo (by omega) (by omega)
      exact hQ _ ⟨(by omega), trivial⟩
    refine ⟨fun c24 => ?_, fun c24 => ?_⟩
    · skip
      refine sC_Studio_roundOf hB lt3 cd4 (fun z25  h26 => ?_)
      obtain ⟨p27, -⟩ := h26
      exact hQ _ ⟨(by omega), trivial⟩
    refine ⟨fun c28 => ?_, fun c28 => ?_⟩
    · skip
      have q29 : (-2147483648) ≤ (M q1 4) ∧ (M q1 4) ≤ 2147483647 := BN.at hB cd4 rfl
      have s30 : sI (M q1 4) = (M q1 4) := sIo (by omega) (by omega)
      exact hQ _ ⟨(by omega), trivial⟩
    exact hX
set_option maxHeartbeats 4000000 in
set_option maxRecDepth 100000 in
theorem sC_inch {M : zM} {a0 : Int} {a1 : Int} (hB : BN wC M) (v0 : (-2147483648) ≤ a0 ∧ a0 ≤ 2147483647) (v1 : (-2147483648) ≤ a1 ∧ a1 ≤ 2147483647) {Q : Int → Prop} (hQ : ∀ (z : Int), ((-2147483648) ≤ z ∧ z ≤ 2147483647) ∧ True → Q z) : wC_inch a0 a1 M Q := by
  unfold wC_inch
  refine sC_Studio_find hB (by omega) (fun h2 => ?_) (fun q1 h2 => ?_)
  · skip
    refine ⟨fun _ => ?_, fun q9 h9 => nomatch h9⟩
    exact hQ _ ⟨(by omega), trivial⟩
  · skip
    refine ⟨(fun h9 => nomatch h9), fun q9 h9 => ?_⟩
    obtain rfl := Option.some.inj h9
    obtain ⟨⟨lt3, cd4⟩, h2⟩ := h2
    refine ⟨⟨lt3, cd4⟩, ?_⟩
    obtain ⟨lt5, cd6, lt7, cd8, lt9, cd10⟩ := nx_ring q1 lt3 cd4
    refine sC_Strip_at hB lt5 cd6 (by omega) (fun z11  h12 => ?_)
    obtain ⟨p13, -⟩ := h12
    exact hQ _ ⟨(by omega), trivial⟩
set_option maxHeartbeats 4000000 in
set_option maxRecDepth 100000 in
theorem sC_Motor_wayTo {M : zM} {j : Nat} {a0 : Int} (hB : BN wC M) (lt_j : j < nC) (cd_j : zcd wC j = 11) {Q : Int → Prop} (hQ : ∀ (z : Int), ((-9223372036854775808) ≤ z ∧ z ≤ 9223372036854775807) ∧ True → Q z) : wC_Motor_wayTo j a0 M Q := by
  unfold wC_Motor_wayTo
  obtain ⟨lt1, cd2, lt3, cd4⟩ := nx_motor j lt_j cd_j
  refine pL4_of (fun x5 x6 x7 x8 => (0 ≤ x8 ∧ x8 ≤ 1000000) ∧ True) (fun x5 x6 x7 x8 => (1000000 - x8).toNat) ⟨(by omega), trivial⟩ (fun K x5 x6 x7 x8 h10 k11 => ?_)
  obtain ⟨i9, -⟩ := h10
  have q12 : 0 ≤ (M j 2) ∧ (M j 2) ≤ 12 := BN.at hB cd_j rfl
  have s13 : sI x8 = x8 := sIo (by omega) (by omega)
  have s14 : sI (M j 2) = (M j 2) := sIo (by omega) (by omega)
  refine pJ0_dup ?_
  refine ⟨fun c15 => ?_, fun c15 => ?_⟩
  · skip
    have s16 := sI_R x7
    have s17 := sL_R (x5 + ((a0 - x6) * (sI x7)))
    exact hQ _ ⟨(by omega), trivial⟩
  · skip
    have o18 : 0 ≤ (sI x8) ∧ (sI x8) < 12 := by omega
    refine ⟨o18, ?_⟩
    have q19 : 0 ≤ (M (j + 1) (sI x8).toNat) ∧ (M (j + 1) (sI x8).toNat) ≤ 5000 := BN.at hB cd2 rfl
    have s20 : sI (M (j + 1) (sI x8).toNat) = (M (j + 1) (sI x8).toNat) := sIo (by omega) (by omega)
    have s21 := sL_R a0
    refine ⟨fun c22 => ?_, fun c22 => ?_⟩
    · skip
      have s23 := sI_R x7
      have s24 := sL_R (x5 + ((a0 - x6) * (sI x7)))
      exact hQ _ ⟨(by omega), trivial⟩
    · skip
      have o25 : 0 ≤ (sI x8) ∧ (sI x8) < 12 := by omega
      refine ⟨o25, ?_⟩
      have s27 := sI_R x7
      intro t28 e29
      have o30 : 0 ≤ (sI x8) ∧ (sI x8) < 12 := by omega
      refine ⟨o30, ?_⟩
      have o32 : 0 ≤ (sI x8) ∧ (sI x8) < 12 := by omega
      refine ⟨o32, ?_⟩
      have q33 : (-9) ≤ (M (j + 2) (sI x8).toNat) ∧ (M (j + 2) (sI x8).toNat) ≤ 9 := BN.at hB cd4 rfl
      exact k11 _ _ _ _ ⟨(by omega), trivial⟩ (by omega)
set_option maxHeartbeats 4000000 in
set_option maxRecDepth 100000 in
theorem sC_way {M : zM} {a0 : Int} {a1 : Int} (hB : BN wC M) (v0 : (-2147483648) ≤ a0 ∧ a0 ≤ 2147483647) (v1 : (-2147483648) ≤ a1 ∧ a1 ≤ 2147483647) {Q : Int → Prop} {X : Prop} (hX : X) (hQ : ∀ (z : Int), ((-9223372036854775808) ≤ z ∧ z ≤ 9223372036854775807) ∧ True → Q z) : wC_way a0 a1 M Q X := by
  unfold wC_way
  refine sC_isMotor hB (by omega) (fun z1  h2 => ?_)
  obtain ⟨p3, p4, -⟩ := h2
  refine ⟨fun c5 => ?_, fun c5 => ?_⟩
  · skip
    exact hX
  · skip
    refine sC_within hB (by omega) (by omega) (by omega) (fun z6  h7 => ?_)
    obtain ⟨p8, p9, -⟩ := h7
    refine ⟨fun c10 => ?_, fun c10 => ?_⟩
    · skip
      refine sC_Studio_motorOf hB (by omega) (fun q11 h12 => ?_)
      obtain ⟨⟨lt13, cd14⟩, h12⟩ := h12
      refine ⟨q11, rfl, ⟨lt13, cd14⟩, ?_⟩
      obtain ⟨lt15, cd16, lt17, cd18⟩ := nx_motor q11 lt13 cd14
      have s19 : sI a1 = a1 := sIo (by omega) (by omega)
      refine sC_Motor_wayTo hB lt13 cd14 (fun z20  h21 => ?_)
      obtain ⟨p22, -⟩ := h21
      exact hQ _ ⟨(by omega), trivial⟩
    · skip
      exact hX
set_option maxHeartbeats 4000000 in
set_option maxRecDepth 100000 in
theorem sC_Motor_steady {M : zM} {j : Nat} (hB : BN wC M) (lt_j : j < nC) (cd_j : zcd wC j = 11) {Q : Int → Prop} (hQ : ∀ (z : Int), (0 ≤ z ∧ z ≤ 5000) ∧ True → Q z) : wC_Motor_steady j M Q := by
  unfold wC_Motor_steady
  obtain ⟨lt1, cd2, lt3, cd4⟩ := nx_motor j lt_j cd_j
  have q5 : 0 ≤ (M j 2) ∧ (M j 2) ≤ 12 := BN.at hB cd_j rfl
  have s6 : sI (M j 2) = (M j 2) := sIo (by omega) (by omega)
  refine ⟨fun c7 => ?_, fun c7 => ?_⟩
  · skip
    have s9 : sI ((M j 2) - 1) = ((M j 2) - 1) := sIo (by omega) (by omega)
    have o10 : 0 ≤ (sI ((M j 2) - 1)) ∧ (sI ((M j 2) - 1)) < 12 := by omega
    refine ⟨o10, ?_⟩
    have q11 : 0 ≤ (M (j + 1) (sI ((M j 2) - 1)).toNat) ∧ (M (j + 1) (sI ((M j 2) - 1)).toNat) ≤ 5000 := BN.at hB cd2 rfl
    have s12 : sI (M (j + 1) (sI ((M j 2) - 1)).toNat) = (M (j + 1) (sI ((M j 2) - 1)).toNat) := sIo (by omega) (by omega)
    exact hQ _ ⟨(by omega), trivial⟩
  · skip
    exact hQ _ ⟨(by omega), trivial⟩
set_option maxHeartbeats 4000000 in
set_option maxRecDepth 100000 in
theorem sC_Motor_wayBy {M : zM} {j : Nat} {a0 : Int} {a1 : Int} (hB : BN wC M) (lt_j : j < nC) (cd_j : zcd wC j = 11) (v1 : 0 ≤ a1 ∧ a1 ≤ 24) {Q : Int → Prop} (hQ : ∀ (z : Int), (0 ≤ z ∧ z ≤ 2147483646) ∧ (1 ≤ a1 → z < a1) ∧ (a1 < 1 → z = 0) ∧ True → Q z) : wC_Motor_wayBy j a0 a1 M Q := by
  unfold wC_Motor_wayBy
  obtain ⟨lt1, cd2, lt3, cd4⟩ := nx_motor j lt_j cd_j
  refine sC_Motor_steady hB lt_j cd_j (fun z5  h6 => ?_)
  obtain ⟨p7, -⟩ := h6
  have s8 := sL_R (a0 - z5)
  refine sC_Motor_wayTo hB lt_j cd_j (fun z9  h10 => ?_)
  obtain ⟨p11, -⟩ := h10
  refine sC_by hB (by omega) (fun z12  h13 => ?_)
  obtain ⟨p14, p15, p16, -⟩ := h13
  refine sC_Motor_lastSpeed hB lt_j cd_j (fun z17  h18 => ?_)
  obtain ⟨p19, -⟩ := h18
  refine sC_by hB (by omega) (fun z20  h21 => ?_)
  obtain ⟨p22, p23, p24, -⟩ := h21
  exact hQ _ ⟨(by omega), (by omega), (by omega), trivial⟩
set_option maxHeartbeats 4000000 in
set_option maxRecDepth 100000 in
theorem sC_Ring_heardBehind {M : zM} {j : Nat} {a0 : Int} (hB : BN wC M) (lt_j : j < nC) (cd_j : zcd wC j = 14) (v0 : (-2147483648) ≤ a0 ∧ a0 ≤ 2147483647) {Q : Int → Prop} (hQ : ∀ (z : Int), ((-2147483648) ≤ z ∧ z ≤ 2147483647) ∧ True → Q z) : wC_Ring_heardBehind j a0 M Q := by
  unfold wC_Ring_heardBehind
  obtain ⟨lt1, cd2, lt3, cd4, lt5, cd6⟩ := nx_ring j lt_j cd_j
  have q7 : 0 ≤ (M j 2) ∧ (M j 2) ≤ 23 := BN.at hB cd_j rfl
  have s8 := sI_R ((M j 2) + a0)
  have q9 : 0 ≤ (M (j + 1) 1) ∧ (M (j + 1) 1) ≤ 24 := BN.at hB cd2 rfl
  refine sC_by hB (by omega) (fun z10  h11 => ?_)
  obtain ⟨p12, p13, p14, -⟩ := h11
  have o15 : 0 ≤ z10 ∧ z10 < 24 := by omega
  refine ⟨o15, ?_⟩
  have q16 : (-2147483648) ≤ (M (j + 3) z10.toNat) ∧ (M (j + 3) z10.toNat) ≤ 2147483647 := BN.at hB cd6 rfl
  have s17 : sI (M (j + 3) z10.toNat) = (M (j + 3) z10.toNat) := sIo (by omega) (by omega)
  exact hQ _ ⟨(by omega), trivial⟩
set_option maxHeartbeats 4000000 in
set_option maxRecDepth 100000 in
theorem sC_Studio_heardOf {M : zM} {a0 : Nat} {a1 : Int} (hB : BN wC M) (lt_a0 : a0 < nC) (cd_a0 : zcd wC a0 = 14) {Q : Int → Prop} (hQ : ∀ (z : Int), ((-2147483648) ≤ z ∧ z ≤ 2147483647) ∧ True → Q z) : wC_Studio_heardOf a0 a1 M Q := by
  unfold wC_Studio_heardOf
  obtain ⟨lt1, cd2, lt3, cd4, lt5, cd6⟩ := nx_ring a0 lt_a0 cd_a0
  have q7 : 0 ≤ (M a0 1) ∧ (M a0 1) ≤ 1 := BN.at hB cd_a0 rfl
  refine sC_Studio_motorOf hB (by omega) (fun q8 h9 => ?_)
  obtain ⟨⟨lt10, cd11⟩, h9⟩ := h9
  refine ⟨q8, rfl, ⟨lt10, cd11⟩, ?_⟩
  obtain ⟨lt12, cd13, lt14, cd15⟩ := nx_motor q8 lt10 cd11
  have q16 : 0 ≤ (M (a0 + 1) 1) ∧ (M (a0 + 1) 1) ≤ 24 := BN.at hB cd2 rfl
  refine sC_Motor_wayBy hB lt10 cd11 (by omega) (fun z17  h18 => ?_)
  obtain ⟨p19, p20, p21, -⟩ := h18
  refine sC_Ring_heardBehind hB lt_a0 cd_a0 (by omega) (fun z22  h23 => ?_)
  obtain ⟨p24, -⟩ := h23
  exact hQ _ ⟨(by omega), trivial⟩
set_option maxHeartbeats 4000000 in
set_option maxRecDepth 100000 in
theorem sC_Studio_heardInAll {M : zM} {a0 : Int} (hB : BN wC M)  {Q : Int → Prop} (hQ : ∀ (z : Int), ((-2147483648) ≤ z ∧ z ≤ 2147483647) ∧ True → Q z) : wC_Studio_heardInAll a0 M Q := by
  unfold wC_Studio_heardInAll
  refine pL2_of (fun x1 x2 => (0 ≤ x2 ∧ x2 ≤ 1000000) ∧ True) (fun x1 x2 => (1000000 - x2).toNat) ⟨(by omega), trivial⟩ (fun K x1 x2 h4 k5 => ?_)
  obtain ⟨i3, -⟩ := h4
  have q6 : 0 ≤ (M 32 2) ∧ (M 32 2) ≤ 4 := BN.at hB (rfl : zcd wC 32 = 8) rfl
  have s7 : sI x2 = x2 := sIo (by omega) (by omega)
  have s8 : sI (M 32 2) = (M 32 2) := sIo (by omega) (by omega)
  refine ⟨fun c9 => ?_, fun c9 => ?_⟩
  · skip
    have s10 := sI_R x1
    exact hQ _ ⟨(by omega), trivial⟩
  · skip
    have o11 : 0 ≤ (sI x2) ∧ (sI x2) < 4 := by omega
    refine ⟨o11, ?_⟩
    obtain ⟨lt12, cd13⟩ : (41 + 4 * (sI x2).toNat) < nC ∧ zcd wC (41 + 4 * (sI x2).toNat) = 14 := (by decide : ∀ k : Nat, k < 4 → (41 + 4 * k) < nC ∧ zcd wC (41 + 4 * k) = 14) (sI x2).toNat (by omega)
    obtain ⟨lt14, cd15, lt16, cd17, lt18, cd19⟩ := nx_ring (41 + 4 * (sI x2).toNat) lt12 cd13
    refine sC_Studio_heardOf hB lt12 cd13 (fun z20  h21 => ?_)
    obtain ⟨p22, -⟩ := h21
    have q23 := orI_R x1 z20
    exact k5 _ _ ⟨(by omega), trivial⟩ (by omega)
set_option maxHeartbeats 4000000 in
set_option maxRecDepth 100000 in
theorem sC_heard {M : zM} {a0 : Int} {a1 : Int} (hB : BN wC M) (v0 : (-2147483648) ≤ a0 ∧ a0 ≤ 2147483647) (v1 : (-9223372036854775808) ≤ a1 ∧ a1 ≤ 9223372036854775807) {Q : Int → Prop} (hQ : ∀ (z : Int), ((-2147483648) ≤ z ∧ z ≤ 2147483647) ∧ True → Q z) : wC_heard a0 a1 M Q := by
  unfold wC_heard
  have s1 : sL a1 = a1 := sLo (by omega) (by omega)
  refine ⟨fun c2 => ?_, fun c2 => ?_⟩
  · skip
    have s3 : sI a0 = a0 := sIo (by omega) (by omega)
    refine ⟨fun c4 => ?_, fun c4 => ?_⟩
    · skip
      refine sC_Studio_find hB (by omega) (fun h6 => ?_) (fun q5 h6 => ?_)
      · skip
        refine ⟨fun _ => ?_, fun q9 h9 => nomatch h9⟩
        exact hQ _ ⟨(by omega), trivial⟩
      · skip
        refine ⟨(fun h9 => nomatch h9), fun q9 h9 => ?_⟩
        obtain rfl := Option.some.inj h9
        obtain ⟨⟨lt7, cd8⟩, h6⟩ := h6
        refine ⟨⟨lt7, cd8⟩, ?_⟩
        obtain ⟨lt9, cd10, lt11, cd12, lt13, cd14⟩ := nx_ring q5 lt7 cd8
        refine sC_Studio_heardOf hB lt7 cd8 (fun z15  h16 => ?_)
        obtain ⟨p17, -⟩ := h16
        exact hQ _ ⟨(by omega), trivial⟩
    · skip
      refine sC_Studio_heardInAll hB  (fun z18  h19 => ?_)
      obtain ⟨p20, -⟩ := h19
      exact hQ _ ⟨(by omega), trivial⟩
  · skip
    exact hQ _ ⟨(by omega), trivial⟩
set_option maxHeartbeats 4000000 in
set_option maxRecDepth 100000 in
theorem sC_Studio_steady {M : zM}  (hB : BN wC M)  {Q : Int → Prop} (hQ : ∀ (z : Int), (0 ≤ z ∧ z ≤ 5000) ∧ True → Q z) : wC_Studio_steady  M Q := by
  unfold wC_Studio_steady
  refine sC_Motor_steady hB (by decide) (rfl : zcd wC 35 = 11) (fun z1  h2 => ?_)
  obtain ⟨p3, -⟩ := h2
  refine sC_Motor_steady hB (by decide) (rfl : zcd wC 38 = 11) (fun z4  h5 => ?_)
  obtain ⟨p6, -⟩ := h5
  exact hQ _ ⟨(by omega), trivial⟩
set_option maxHeartbeats 4000000 in
set_option maxRecDepth 100000 in
theorem sC_Studio_grants {M : zM} {a0 : Nat} {a1 : Int} (hB : BN wC M) (lt_a0 : a0 < nC) (cd_a0 : zcd wC a0 = 14) {Q : Int → Prop} (hQ : ∀ (z : Int), (0 ≤ z ∧ z ≤ 1) ∧ True → Q z) : wC_Studio_grants a0 a1 M Q := by
  unfold wC_Studio_grants
  obtain ⟨lt1, cd2, lt3, cd4, lt5, cd6⟩ := nx_ring a0 lt_a0 cd_a0
  have q7 : (-2147483648) ≤ (M a0 4) ∧ (M a0 4) ≤ 2147483647 := BN.at hB cd_a0 rfl
  refine sC_Studio_heardOf hB lt_a0 cd_a0 (fun z8  h9 => ?_)
  obtain ⟨p10, -⟩ := h9
  have q11 := xorI_R z8 (-1)
  have q12 := andI_R (M a0 4) (xorI z8 (-1))
  refine ⟨fun c13 => ?_, fun c13 => ?_⟩
  · skip
    exact hQ _ ⟨(by omega), trivial⟩
  · skip
    exact hQ _ ⟨(by omega), trivial⟩
set_option maxHeartbeats 4000000 in
set_option maxRecDepth 100000 in
theorem sC_Meeting_turnsOf {M : zM} {a1 : Nat} {a2 : Int} (hB : BN wC M) (lt_a1 : a1 < nC) (cd_a1 : zcd wC a1 = 14) (v2 : 0 ≤ a2 ∧ a2 ≤ 24) {Q : Int → Prop} (hQ : ∀ (z : Int), ((-2147483648) ≤ z ∧ z ≤ 2147483647) ∧ True → Q z) : wC_Meeting_turnsOf a1 a2 M Q := by
  unfold wC_Meeting_turnsOf
  obtain ⟨lt1, cd2, lt3, cd4, lt5, cd6⟩ := nx_ring a1 lt_a1 cd_a1
  refine pL2_of (fun x7 x8 => (0 ≤ x8 ∧ x8 ≤ 1000000) ∧ True) (fun x7 x8 => (1000000 - x8).toNat) ⟨(by omega), trivial⟩ (fun K x7 x8 h10 k11 => ?_)
  obtain ⟨i9, -⟩ := h10
  have s12 : sI x8 = x8 := sIo (by omega) (by omega)
  have s13 : sI a2 = a2 := sIo (by omega) (by omega)
  refine ⟨fun c14 => ?_, fun c14 => ?_⟩
  · skip
    have s15 := sI_R x7
    exact hQ _ ⟨(by omega), trivial⟩
  · skip
    have q16 : 0 ≤ (M 57 1) ∧ (M 57 1) ≤ 5000 := BN.at hB (rfl : zcd wC 57 = 16) rfl
    refine sC_Studio_grants hB lt_a1 cd_a1 (fun z17  h18 => ?_)
    obtain ⟨p19, -⟩ := h18
    refine ⟨fun c20 => ?_, fun c20 => ?_⟩
    · skip
      exact k11 _ _ ⟨(by omega), trivial⟩ (by omega)
    · skip
      have q21 := shlI_R 1 x8
      have q22 := orI_R x7 (shlI 1 x8)
      exact k11 _ _ ⟨(by omega), trivial⟩ (by omega)
set_option maxHeartbeats 4000000 in
set_option maxRecDepth 100000 in
theorem sC_Meeting_look {M : zM}  (hB : BN wC M)  {Q : zM → Prop} (hQ : ∀ (M1 : zM), BN wC M1 ∧ (∀ j9 : Nat, ¬ (57 ≤ j9 ∧ j9 ≤ 59) → M1 j9 = M j9) ∧ True → Q M1) : wC_Meeting_look  M Q := by
  unfold wC_Meeting_look
  have hF0 : ∀ j9 : Nat, ¬ (57 ≤ j9 ∧ j9 ≤ 59) → M j9 = M j9 := fun j9 _ => rfl
  refine sC_Studio_steady hB  (fun z1  h2 => ?_)
  obtain ⟨p3, -⟩ := h2
  intro M4 e5
  have hB6 : BN wC M4 := by rw [e5]; exact BN.up hB (rfl : zcd wC 57 = 16) rfl (by omega) (by omega)
  have hF7 : ∀ j9 : Nat, ¬ (57 ≤ j9 ∧ j9 ≤ 59) → M4 j9 = M j9 := fun j9 h9 => by rw [e5]; exact (zup_row _ _ (by omega)).trans (hF0 j9 h9)
  have r8 : M4 57 0 = M 57 0 := by rw [e5]; exact zup_n _ _ (by omega)
  intro M9 e10
  have hB11 : BN wC M9 := by rw [e10]; exact BN.up hB6 (rfl : zcd wC 57 = 16) rfl (by omega) (by omega)
  have hF12 : ∀ j9 : Nat, ¬ (57 ≤ j9 ∧ j9 ≤ 59) → M9 j9 = M j9 := fun j9 h9 => by rw [e10]; exact (zup_row _ _ (by omega)).trans (hF7 j9 h9)
  have r13 : M9 57 0 = 0 := by rw [e10]; exact zup_s _ _ _ _
  refine wL1_of (fun x14 M15 => BN wC M15 ∧ (∀ j9 : Nat, ¬ (57 ≤ j9 ∧ j9 ≤ 59) → M15 j9 = M j9) ∧ (0 ≤ x14 ∧ x14 ≤ 4) ∧ (M15 57 0 ≤ x14) ∧ True) (fun x14 M15 => (1000000 - x14).toNat) ⟨hB11, hF12, (by omega), (by omega), trivial⟩ (fun K x14 M15 h20 k21 => ?_)
  obtain ⟨hB16, hF17, i18, i19, -⟩ := h20
  have s22 : sI x14 = x14 := sIo (by omega) (by omega)
  refine ⟨fun c23 => ?_, fun c23 => ?_⟩
  · skip
    exact hQ _ ⟨hB16, hF17, trivial⟩
  · skip
    refine sC_Studio_find hB16 (by omega) (fun h25 => ?_) (fun q24 h25 => ?_)
    · skip
      refine ⟨fun _ => ?_, fun q9 h9 => nomatch h9⟩
      exact k21 _ _ ⟨hB16, hF17, (by omega), (by omega), trivial⟩ (by omega)
    · skip
      refine ⟨(fun h9 => nomatch h9), fun q9 h9 => ?_⟩
      obtain rfl := Option.some.inj h9
      obtain ⟨⟨lt26, cd27⟩, h25⟩ := h25
      refine ⟨⟨lt26, cd27⟩, ?_⟩
      obtain ⟨lt28, cd29, lt30, cd31, lt32, cd33⟩ := nx_ring q24 lt26 cd27
      refine sC_Studio_roundOf hB16 lt26 cd27 (fun z34  h35 => ?_)
      obtain ⟨p36, -⟩ := h35
      have o37 : 0 ≤ (sI x14) ∧ (sI x14) < 4 := by omega
      refine ⟨o37, ?_⟩
      intro M38 e39
      have hB40 : BN wC M38 := by rw [e39]; exact BN.up hB16 (rfl : zcd wC 58 = 17) rfl (by omega) (by omega)
      have hF41 : ∀ j9 : Nat, ¬ (57 ≤ j9 ∧ j9 ≤ 59) → M38 j9 = M j9 := fun j9 h9 => by rw [e39]; exact (zup_row _ _ (by omega)).trans (hF17 j9 h9)
      have r42 : M38 57 0 = M15 57 0 := by rw [e39]; exact zup_n _ _ (by omega)
      have o43 : 0 ≤ (sI x14) ∧ (sI x14) < 4 := by omega
      refine ⟨o43, ?_⟩
      have q44 : 0 ≤ (M38 58 (sI x14).toNat) ∧ (M38 58 (sI x14).toNat) ≤ 24 := BN.at hB40 (rfl : zcd wC 58 = 17) rfl
      refine sC_Meeting_turnsOf hB40 lt26 cd27 (by omega) (fun z45  h46 => ?_)
      obtain ⟨p47, -⟩ := h46
      have o48 : 0 ≤ (sI x14) ∧ (sI x14) < 4 := by omega
      refine ⟨o48, ?_⟩
      intro M49 e50
      have hB51 : BN wC M49 := by rw [e50]; exact BN.up hB40 (rfl : zcd wC 59 = 18) rfl (by omega) (by omega)
      have hF52 : ∀ j9 : Nat, ¬ (57 ≤ j9 ∧ j9 ≤ 59) → M49 j9 = M j9 := fun j9 h9 => by rw [e50]; exact (zup_row _ _ (by omega)).trans (hF41 j9 h9)
      have r53 : M49 57 0 = M38 57 0 := by rw [e50]; exact zup_n _ _ (by omega)
      have q54 : 0 ≤ (M49 57 0) ∧ (M49 57 0) ≤ 4 := BN.at hB51 (rfl : zcd wC 57 = 16) rfl
      intro M55 e56
      have hB57 : BN wC M55 := by rw [e56]; exact BN.up hB51 (rfl : zcd wC 57 = 16) rfl (by omega) (by omega)
      have hF58 : ∀ j9 : Nat, ¬ (57 ≤ j9 ∧ j9 ≤ 59) → M55 j9 = M j9 := fun j9 h9 => by rw [e56]; exact (zup_row _ _ (by omega)).trans (hF52 j9 h9)
      have r59 : M55 57 0 = ((M49 57 0) + 1) := by rw [e56]; exact zup_s _ _ _ _
      exact k21 _ _ ⟨hB57, hF58, (by omega), (by omega), trivial⟩ (by omega)
set_option maxHeartbeats 4000000 in
set_option maxRecDepth 100000 in
theorem sC_leastMultiple {M : zM} {a0 : Int} {a1 : Int} (hB : BN wC M) (v0 : (-9223372036854775808) ≤ a0 ∧ a0 ≤ 9223372036854775807) (v1 : 0 ≤ a1 ∧ a1 ≤ 1000000) {Q : Int → Prop} (hQ : ∀ (z : Int), ((-9223372036854775808) ≤ z ∧ z ≤ 9223372036854775807) ∧ True → Q z) : wC_leastMultiple a0 a1 M Q := by
  unfold wC_leastMultiple
  refine sC_withoutShared hB (by omega) (by omega) (fun z1  h2 => ?_)
  obtain ⟨p3, p4, -⟩ := h2
  have s5 := sL_R (a0 * z1)
  exact hQ _ ⟨(by omega), trivial⟩
set_option maxHeartbeats 4000000 in
set_option maxRecDepth 100000 in
theorem sC_Meeting_allTicks {M : zM}  (hB : BN wC M)  {Q : Int → Prop} (hQ : ∀ (z : Int), ((-9223372036854775808) ≤ z ∧ z ≤ 9223372036854775807) ∧ True → Q z) : wC_Meeting_allTicks  M Q := by
  unfold wC_Meeting_allTicks
  refine pL2_of (fun x1 x2 => ((-9223372036854775808) ≤ x1 ∧ x1 ≤ 9223372036854775807) ∧ (0 ≤ x2 ∧ x2 ≤ 1000000) ∧ True) (fun x1 x2 => (1000000 - x2).toNat) ⟨(by omega), (by omega), trivial⟩ (fun K x1 x2 h5 k6 => ?_)
  obtain ⟨i3, i4, -⟩ := h5
  have q7 : 0 ≤ (M 57 0) ∧ (M 57 0) ≤ 4 := BN.at hB (rfl : zcd wC 57 = 16) rfl
  have s8 : sI x2 = x2 := sIo (by omega) (by omega)
  have s9 : sI (M 57 0) = (M 57 0) := sIo (by omega) (by omega)
  refine ⟨fun c10 => ?_, fun c10 => ?_⟩
  · skip
    have s11 : sL x1 = x1 := sLo (by omega) (by omega)
    exact hQ _ ⟨(by omega), trivial⟩
  · skip
    have o12 : 0 ≤ (sI x2) ∧ (sI x2) < 4 := by omega
    refine ⟨o12, ?_⟩
    have q13 : 0 ≤ (M 58 (sI x2).toNat) ∧ (M 58 (sI x2).toNat) ≤ 24 := BN.at hB (rfl : zcd wC 58 = 17) rfl
    refine sC_leastMultiple hB (by omega) (by omega) (fun z14  h15 => ?_)
    obtain ⟨p16, -⟩ := h15
    exact k6 _ _ ⟨(by omega), (by omega), trivial⟩ (by omega)
set_option maxHeartbeats 4000000 in
set_option maxRecDepth 100000 in
theorem sC_all {M : zM}  (hB : BN wC M)  {Q : Int → zM → Prop} (hQ : ∀ (z : Int) (M1 : zM), BN wC M1 ∧ (∀ j9 : Nat, ¬ (57 ≤ j9 ∧ j9 ≤ 59) → M1 j9 = M j9) ∧ ((-9223372036854775808) ≤ z ∧ z ≤ 9223372036854775807) ∧ True → Q z M1) : wC_all  M Q := by
  unfold wC_all
  have hF0 : ∀ j9 : Nat, ¬ (57 ≤ j9 ∧ j9 ≤ 59) → M j9 = M j9 := fun j9 _ => rfl
  refine sC_Meeting_look hB  (fun  M1 h2 => ?_)
  obtain ⟨hB3, f4, -⟩ := h2
  have hF5 : ∀ j9 : Nat, ¬ (57 ≤ j9 ∧ j9 ≤ 59) → M1 j9 = M j9 := fun j9 h9 => ((f4 j9 (by omega)).trans (hF0 j9 h9))
  refine sC_Meeting_allTicks hB3  (fun z6  h7 => ?_)
  obtain ⟨p8, -⟩ := h7
  exact hQ _ _ ⟨hB3, hF5, (by omega), trivial⟩
set_option maxHeartbeats 4000000 in
set_option maxRecDepth 100000 in
theorem sC_isSounds {M : zM} {a0 : Int} (hB : BN wC M) (v0 : (-2147483648) ≤ a0 ∧ a0 ≤ 2147483647) {Q : Int → Prop} (hQ : ∀ (z : Int), (0 ≤ z ∧ z ≤ 1) ∧ ((z = 1 ∧ andI a0 (-1023) = 0) ∨ (z = 0 ∧ ¬ (andI a0 (-1023) = 0))) ∧ True → Q z) : wC_isSounds a0 M Q := by
  unfold wC_isSounds
  have q1 := andI_R a0 (-1023)
  refine ⟨fun c2 => ?_, fun c2 => ?_⟩
  · skip
    exact hQ _ ⟨(by omega), (by omega), trivial⟩
  · skip
    exact hQ _ ⟨(by omega), (by omega), trivial⟩
set_option maxHeartbeats 4000000 in
set_option maxRecDepth 100000 in
theorem sC_Studio_meetsAt {M : zM} {a0 : Int} (hB : BN wC M)  {Q : Int → Prop} (hQ : ∀ (z : Int), (0 ≤ z ∧ z ≤ 1) ∧ True → Q z) : wC_Studio_meetsAt a0 M Q := by
  unfold wC_Studio_meetsAt
  refine pL1_of (fun x1 => (0 ≤ x1 ∧ x1 ≤ 1000000) ∧ True) (fun x1 => (1000000 - x1).toNat) ⟨(by omega), trivial⟩ (fun K x1 h3 k4 => ?_)
  obtain ⟨i2, -⟩ := h3
  have q5 : 0 ≤ (M 32 2) ∧ (M 32 2) ≤ 4 := BN.at hB (rfl : zcd wC 32 = 8) rfl
  have s6 : sI x1 = x1 := sIo (by omega) (by omega)
  have s7 : sI (M 32 2) = (M 32 2) := sIo (by omega) (by omega)
  refine ⟨fun c8 => ?_, fun c8 => ?_⟩
  · skip
    exact hQ _ ⟨(by omega), trivial⟩
  · skip
    have o9 : 0 ≤ (sI x1) ∧ (sI x1) < 4 := by omega
    refine ⟨o9, ?_⟩
    obtain ⟨lt10, cd11⟩ : (41 + 4 * (sI x1).toNat) < nC ∧ zcd wC (41 + 4 * (sI x1).toNat) = 14 := (by decide : ∀ k : Nat, k < 4 → (41 + 4 * k) < nC ∧ zcd wC (41 + 4 * k) = 14) (sI x1).toNat (by omega)
    obtain ⟨lt12, cd13, lt14, cd15, lt16, cd17⟩ := nx_ring (41 + 4 * (sI x1).toNat) lt10 cd11
    refine sC_Studio_grants hB lt10 cd11 (fun z18  h19 => ?_)
    obtain ⟨p20, -⟩ := h19
    refine ⟨fun c21 => ?_, fun c21 => ?_⟩
    · skip
      exact k4 _ ⟨(by omega), trivial⟩ (by omega)
    · skip
      exact hQ _ ⟨(by omega), trivial⟩
set_option maxHeartbeats 4000000 in
set_option maxRecDepth 100000 in
theorem sC_Meeting_sharedTicks {M : zM}  (hB : BN wC M)  {Q : Int → Prop} (hQ : ∀ (z : Int), ((-2147483648) ≤ z ∧ z ≤ 2147483647) ∧ True → Q z) : wC_Meeting_sharedTicks  M Q := by
  unfold wC_Meeting_sharedTicks
  refine pL2_of (fun x1 x2 => ((-9223372036854775808) ≤ x1 ∧ x1 ≤ 9223372036854775807) ∧ (0 ≤ x2 ∧ x2 ≤ 1000000) ∧ True) (fun x1 x2 => (1000000 - x2).toNat) ⟨(by omega), (by omega), trivial⟩ (fun K x1 x2 h5 k6 => ?_)
  obtain ⟨i3, i4, -⟩ := h5
  have q7 : 0 ≤ (M 57 0) ∧ (M 57 0) ≤ 4 := BN.at hB (rfl : zcd wC 57 = 16) rfl
  have s8 : sI x2 = x2 := sIo (by omega) (by omega)
  have s9 : sI (M 57 0) = (M 57 0) := sIo (by omega) (by omega)
  refine ⟨fun c10 => ?_, fun c10 => ?_⟩
  · skip
    have s11 := sI_R x1
    exact hQ _ ⟨(by omega), trivial⟩
  · skip
    refine pL2_of (fun x12 x13 => ((-9223372036854775808) ≤ x12 ∧ x12 ≤ 9223372036854775807) ∧ (0 ≤ x13 ∧ x13 ≤ 1000000) ∧ True) (fun x12 x13 => (1000000 - x13).toNat) ⟨(by omega), (by omega), trivial⟩ (fun K x12 x13 h16 k17 => ?_)
    obtain ⟨i14, i15, -⟩ := h16
    have q18 : 0 ≤ (M 57 0) ∧ (M 57 0) ≤ 4 := BN.at hB (rfl : zcd wC 57 = 16) rfl
    have s19 : sI x13 = x13 := sIo (by omega) (by omega)
    have s20 : sI (M 57 0) = (M 57 0) := sIo (by omega) (by omega)
    refine ⟨fun c21 => ?_, fun c21 => ?_⟩
    · skip
      exact k6 _ _ ⟨(by omega), (by omega), trivial⟩ (by omega)
    · skip
      have s22 : sI x2 = x2 := sIo (by omega) (by omega)
      have o23 : 0 ≤ (sI x2) ∧ (sI x2) < 4 := by omega
      refine ⟨o23, ?_⟩
      have q24 : 0 ≤ (M 58 (sI x2).toNat) ∧ (M 58 (sI x2).toNat) ≤ 24 := BN.at hB (rfl : zcd wC 58 = 17) rfl
      have o25 : 0 ≤ (sI x13) ∧ (sI x13) < 4 := by omega
      refine ⟨o25, ?_⟩
      have q26 : 0 ≤ (M 58 (sI x13).toNat) ∧ (M 58 (sI x13).toNat) ≤ 24 := BN.at hB (rfl : zcd wC 58 = 17) rfl
      have s27 : sI (M 58 (sI x13).toNat) = (M 58 (sI x13).toNat) := sIo (by omega) (by omega)
      refine sC_greatestDivisor hB (by omega) (by omega) (fun z28  h29 => ?_)
      obtain ⟨p30, p31, -⟩ := h29
      refine sC_leastMultiple hB (by omega) (by omega) (fun z32  h33 => ?_)
      obtain ⟨p34, -⟩ := h33
      exact k17 _ _ ⟨(by omega), (by omega), trivial⟩ (by omega)
set_option maxHeartbeats 4000000 in
set_option maxRecDepth 100000 in
theorem sC_Meeting_turnsAlike {M : zM} {a0 : Int} {a1 : Int} {a2 : Int} (hB : BN wC M) (v0 : 0 ≤ a0 ∧ a0 ≤ 3) (v1 : (-2147483648) ≤ a1 ∧ a1 ≤ 2147483647) (v2 : 0 ≤ a2 ∧ a2 ≤ 24) {Q : Int → Prop} (hQ : ∀ (z : Int), ((-2147483648) ≤ z ∧ z ≤ 2147483647) ∧ True → Q z) : wC_Meeting_turnsAlike a0 a1 a2 M Q := by
  unfold wC_Meeting_turnsAlike
  have s1 : sI a1 = a1 := sIo (by omega) (by omega)
  refine sC_by hB (by omega) (fun z2  h3 => ?_)
  obtain ⟨p4, p5, p6, -⟩ := h3
  refine pL2_of (fun x7 x8 => (0 ≤ x8 ∧ x8 ≤ 48) ∧ True) (fun x7 x8 => (48 - x8).toNat) ⟨(by omega), trivial⟩ (fun K x7 x8 h10 k11 => ?_)
  obtain ⟨i9, -⟩ := h10
  have s12 : sI a0 = a0 := sIo (by omega) (by omega)
  have o13 : 0 ≤ (sI a0) ∧ (sI a0) < 4 := by omega
  refine ⟨o13, ?_⟩
  have q14 : 0 ≤ (M 58 (sI a0).toNat) ∧ (M 58 (sI a0).toNat) ≤ 24 := BN.at hB (rfl : zcd wC 58 = 17) rfl
  have s15 : sI x8 = x8 := sIo (by omega) (by omega)
  have s16 : sI (M 58 (sI a0).toNat) = (M 58 (sI a0).toNat) := sIo (by omega) (by omega)
  refine ⟨fun c17 => ?_, fun c17 => ?_⟩
  · skip
    have s18 := sI_R x7
    exact hQ _ ⟨(by omega), trivial⟩
  · skip
    have o19 : 0 ≤ (sI a0) ∧ (sI a0) < 4 := by omega
    refine ⟨o19, ?_⟩
    have q20 : (-2147483648) ≤ (M 59 (sI a0).toNat) ∧ (M 59 (sI a0).toNat) ≤ 2147483647 := BN.at hB (rfl : zcd wC 59 = 18) rfl
    have q21 := shrI_R (M 59 (sI a0).toNat) x8
    have q22 := andI_br (shrI (M 59 (sI a0).toNat) x8) (c := 1) (by decide) (by decide)
    intro t23 e24
    have s25 : sI a2 = a2 := sIo (by omega) (by omega)
    exact k11 _ _ ⟨(by omega), trivial⟩ (by omega)
set_option maxHeartbeats 4000000 in
set_option maxRecDepth 100000 in
theorem sC_Meeting_howOften {M : zM}  (hB : BN wC M)  {Q : Int → Prop} (hQ : ∀ (z : Int), ((-9223372036854775808) ≤ z ∧ z ≤ 9223372036854775807) ∧ True → Q z) : wC_Meeting_howOften  M Q := by
  unfold wC_Meeting_howOften
  refine sC_Meeting_sharedTicks hB  (fun z1  h2 => ?_)
  obtain ⟨p3, -⟩ := h2
  refine pL2_of (fun x4 x5 => (0 ≤ x5 ∧ x5 ≤ 2147483647) ∧ True) (fun x4 x5 => (2147483647 - x5).toNat) ⟨(by omega), trivial⟩ (fun K x4 x5 h7 k8 => ?_)
  obtain ⟨i6, -⟩ := h7
  have s9 : sI x5 = x5 := sIo (by omega) (by omega)
  refine ⟨fun c10 => ?_, fun c10 => ?_⟩
  · skip
    have s11 := sL_R x4
    exact hQ _ ⟨(by omega), trivial⟩
  · skip
    refine pL2_of (fun x12 x13 => (0 ≤ x13 ∧ x13 ≤ 1000000) ∧ True) (fun x12 x13 => (1000000 - x13).toNat) ⟨(by omega), trivial⟩ (fun K x12 x13 h15 k16 => ?_)
    obtain ⟨i14, -⟩ := h15
    have q17 : 0 ≤ (M 57 0) ∧ (M 57 0) ≤ 4 := BN.at hB (rfl : zcd wC 57 = 16) rfl
    have s18 : sI x13 = x13 := sIo (by omega) (by omega)
    have s19 : sI (M 57 0) = (M 57 0) := sIo (by omega) (by omega)
    refine ⟨fun c20 => ?_, fun c20 => ?_⟩
    · skip
      exact k8 _ _ ⟨(by omega), trivial⟩ (by omega)
    · skip
      have o21 : 0 ≤ (sI x13) ∧ (sI x13) < 4 := by omega
      refine ⟨o21, ?_⟩
      have q22 : 0 ≤ (M 58 (sI x13).toNat) ∧ (M 58 (sI x13).toNat) ≤ 24 := BN.at hB (rfl : zcd wC 58 = 17) rfl
      refine sC_greatestDivisor hB (by omega) (by omega) (fun z23  h24 => ?_)
      obtain ⟨p25, p26, -⟩ := h24
      refine sC_Meeting_turnsAlike hB (by omega) (by omega) (by omega) (fun z27  h28 => ?_)
      obtain ⟨p29, -⟩ := h28
      exact k16 _ _ ⟨(by omega), trivial⟩ (by omega)
set_option maxHeartbeats 4000000 in
set_option maxRecDepth 100000 in
theorem sC_Meeting_ticksToTurn {M : zM} {a0 : Int} {a1 : Int} (hB : BN wC M) (v0 : 0 ≤ a0 ∧ a0 ≤ 3) (v1 : (-2147483648) ≤ a1 ∧ a1 ≤ 2147483647) {Q : Int → Prop} (hQ : ∀ (z : Int), ((-2147483648) ≤ z ∧ z ≤ 2147483647) ∧ True → Q z) : wC_Meeting_ticksToTurn a0 a1 M Q := by
  unfold wC_Meeting_ticksToTurn
  have s1 : sI a0 = a0 := sIo (by omega) (by omega)
  have o2 : 0 ≤ (sI a0) ∧ (sI a0) < 4 := by omega
  refine ⟨o2, ?_⟩
  have q3 : 0 ≤ (M 58 (sI a0).toNat) ∧ (M 58 (sI a0).toNat) ≤ 24 := BN.at hB (rfl : zcd wC 58 = 17) rfl
  refine pL1_of (fun x4 => (0 ≤ x4 ∧ x4 ≤ 1000000) ∧ True) (fun x4 => (1000000 - x4).toNat) ⟨(by omega), trivial⟩ (fun K x4 h6 k7 => ?_)
  obtain ⟨i5, -⟩ := h6
  have s8 : sI x4 = x4 := sIo (by omega) (by omega)
  have s9 : sI (M 58 (sI a0).toNat) = (M 58 (sI a0).toNat) := sIo (by omega) (by omega)
  refine ⟨fun c10 => ?_, fun c10 => ?_⟩
  · skip
    exact hQ _ ⟨(by omega), trivial⟩
  · skip
    have s11 : sI a0 = a0 := sIo (by omega) (by omega)
    have o12 : 0 ≤ (sI a0) ∧ (sI a0) < 4 := by omega
    refine ⟨o12, ?_⟩
    have q13 : (-2147483648) ≤ (M 59 (sI a0).toNat) ∧ (M 59 (sI a0).toNat) ≤ 2147483647 := BN.at hB (rfl : zcd wC 59 = 18) rfl
    have s14 := sI_R (a1 + x4)
    refine sC_by hB (by omega) (fun z15  h16 => ?_)
    obtain ⟨p17, p18, p19, -⟩ := h16
    have q20 := shrI_R (M 59 (sI a0).toNat) z15
    have q21 := andI_br (shrI (M 59 (sI a0).toNat) z15) (c := 1) (by decide) (by decide)
    refine ⟨fun c22 => ?_, fun c22 => ?_⟩
    · skip
      exact k7 _ ⟨(by omega), trivial⟩ (by omega)
    · skip
      exact hQ _ ⟨(by omega), trivial⟩
set_option maxHeartbeats 4000000 in
set_option maxRecDepth 100000 in
theorem sC_Meeting_firstSteady {M : zM} {a0 : Int} (hB : BN wC M) (v0 : (-9223372036854775808) ≤ a0 ∧ a0 ≤ 9223372036854775807) {Q : Int → Prop} (hQ : ∀ (z : Int), ((-9223372036854775808) ≤ z ∧ z ≤ 9223372036854775807) ∧ True → Q z) : wC_Meeting_firstSteady a0 M Q := by
  unfold wC_Meeting_firstSteady
  refine sC_Meeting_allTicks hB  (fun z1  h2 => ?_)
  obtain ⟨p3, -⟩ := h2
  refine pL2_of (fun x4 x5 => (0 ≤ x5 ∧ x5 ≤ 9223372036854775807) ∧ True) (fun x4 x5 => (9223372036854775807 - x5).toNat) ⟨(by omega), trivial⟩ (fun K x4 x5 h7 k8 => ?_)
  obtain ⟨i6, -⟩ := h7
  have s9 : sL x5 = x5 := sLo (by omega) (by omega)
  refine ⟨fun c10 => ?_, fun c10 => ?_⟩
  · skip
    exact hQ _ ⟨(by omega), trivial⟩
  · skip
    have s11 := sL_R x4
    have s12 := sL_R (a0 + z1)
    refine ⟨fun c13 => ?_, fun c13 => ?_⟩
    · skip
      exact hQ _ ⟨(by omega), trivial⟩
    · skip
      refine pL2_of (fun x14 x15 => (0 ≤ x15 ∧ x15 ≤ 1000000) ∧ True) (fun x14 x15 => (1000000 - x15).toNat) ⟨(by omega), trivial⟩ (fun K x14 x15 h17 k18 => ?_)
      obtain ⟨i16, -⟩ := h17
      have q19 : 0 ≤ (M 57 0) ∧ (M 57 0) ≤ 4 := BN.at hB (rfl : zcd wC 57 = 16) rfl
      have s20 : sI x15 = x15 := sIo (by omega) (by omega)
      have s21 : sI (M 57 0) = (M 57 0) := sIo (by omega) (by omega)
      refine ⟨fun c22 => ?_, fun c22 => ?_⟩
      · skip
        have s23 := sL_R x14
        have s24 := sL_R x4
        refine ⟨fun c25 => ?_, fun c25 => ?_⟩
        · skip
          exact k8 _ _ ⟨(by omega), trivial⟩ (by omega)
        · skip
          exact hQ _ ⟨(by omega), trivial⟩
      · skip
        have q26 : 0 ≤ (M 57 1) ∧ (M 57 1) ≤ 5000 := BN.at hB (rfl : zcd wC 57 = 16) rfl
        have o27 : 0 ≤ (sI x15) ∧ (sI x15) < 4 := by omega
        refine ⟨o27, ?_⟩
        have q28 : 0 ≤ (M 58 (sI x15).toNat) ∧ (M 58 (sI x15).toNat) ≤ 24 := BN.at hB (rfl : zcd wC 58 = 17) rfl
        refine sC_by hB (by omega) (fun z29  h30 => ?_)
        obtain ⟨p31, p32, p33, -⟩ := h30
        refine sC_Meeting_ticksToTurn hB (by omega) (by omega) (fun z34  h35 => ?_)
        obtain ⟨p36, -⟩ := h35
        exact k18 _ _ ⟨(by omega), trivial⟩ (by omega)
set_option maxHeartbeats 4000000 in
set_option maxRecDepth 100000 in
theorem sC_Meeting_first {M : zM} {a1 : Int} (hB : BN wC M) (v1 : 0 ≤ a1 ∧ a1 ≤ 1152921504606846976) {Q : Int → Prop} (hQ : ∀ (z : Int), ((-9223372036854775808) ≤ z ∧ z ≤ 9223372036854775807) ∧ True → Q z) : wC_Meeting_first a1 M Q := by
  unfold wC_Meeting_first
  refine pL1_of (fun x1 => (0 ≤ x1 ∧ x1 ≤ 9223372036854775807) ∧ True) (fun x1 => (9223372036854775807 - x1).toNat) ⟨(by omega), trivial⟩ (fun K x1 h3 k4 => ?_)
  obtain ⟨i2, -⟩ := h3
  have q5 : 0 ≤ (M 57 1) ∧ (M 57 1) ≤ 5000 := BN.at hB (rfl : zcd wC 57 = 16) rfl
  have s6 : sL x1 = x1 := sLo (by omega) (by omega)
  have s7 : sL (M 57 1) = (M 57 1) := sLo (by omega) (by omega)
  refine ⟨fun c8 => ?_, fun c8 => ?_⟩
  · skip
    refine sC_Meeting_howOften hB  (fun z9  h10 => ?_)
    obtain ⟨p11, -⟩ := h10
    refine ⟨fun c12 => ?_, fun c12 => ?_⟩
    · skip
      have s14 : sL a1 = a1 := sLo (by omega) (by omega)
      refine sC_Meeting_firstSteady hB (by omega) (fun z15  h16 => ?_)
      obtain ⟨p17, -⟩ := h16
      exact hQ _ ⟨(by omega), trivial⟩
    · skip
      exact hQ _ ⟨(by omega), trivial⟩
  · skip
    refine sC_Studio_meetsAt hB  (fun z18  h19 => ?_)
    obtain ⟨p20, -⟩ := h19
    refine ⟨fun c21 => ?_, fun c21 => ?_⟩
    · skip
      exact k4 _ ⟨(by omega), trivial⟩ (by omega)
    · skip
      exact hQ _ ⟨(by omega), trivial⟩
set_option maxHeartbeats 4000000 in
set_option maxRecDepth 100000 in
theorem sC_meets {M : zM} {a0 : Int} (hB : BN wC M) (v0 : (-9223372036854775808) ≤ a0 ∧ a0 ≤ 9223372036854775807) {Q : Int → zM → Prop} (hQ : ∀ (z : Int) (M1 : zM), BN wC M1 ∧ (∀ j9 : Nat, ¬ (57 ≤ j9 ∧ j9 ≤ 59) → M1 j9 = M j9) ∧ ((-9223372036854775808) ≤ z ∧ z ≤ 9223372036854775807) ∧ True → Q z M1) : wC_meets a0 M Q := by
  unfold wC_meets
  have hF0 : ∀ j9 : Nat, ¬ (57 ≤ j9 ∧ j9 ≤ 59) → M j9 = M j9 := fun j9 _ => rfl
  have s1 : sL a0 = a0 := sLo (by omega) (by omega)
  refine ⟨fun c2 => ?_, fun c2 => ?_⟩
  · skip
    exact hQ _ _ ⟨hB, hF0, (by omega), trivial⟩
  · skip
    refine ⟨fun c3 => ?_, fun c3 => ?_⟩
    · skip
      refine sC_Meeting_look hB  (fun  M4 h5 => ?_)
      obtain ⟨hB6, f7, -⟩ := h5
      have hF8 : ∀ j9 : Nat, ¬ (57 ≤ j9 ∧ j9 ≤ 59) → M4 j9 = M j9 := fun j9 h9 => ((f7 j9 (by omega)).trans (hF0 j9 h9))
      refine sC_Meeting_first hB6 (by omega) (fun z9  h10 => ?_)
      obtain ⟨p11, -⟩ := h10
      exact hQ _ _ ⟨hB6, hF8, (by omega), trivial⟩
    · skip
      exact hQ _ _ ⟨hB, hF0, (by omega), trivial⟩
set_option maxHeartbeats 4000000 in
set_option maxRecDepth 100000 in
theorem sC_often {M : zM}  (hB : BN wC M)  {Q : Int → zM → Prop} (hQ : ∀ (z : Int) (M1 : zM), BN wC M1 ∧ (∀ j9 : Nat, ¬ (57 ≤ j9 ∧ j9 ≤ 59) → M1 j9 = M j9) ∧ ((-9223372036854775808) ≤ z ∧ z ≤ 9223372036854775807) ∧ True → Q z M1) : wC_often  M Q := by
  unfold wC_often
  have hF0 : ∀ j9 : Nat, ¬ (57 ≤ j9 ∧ j9 ≤ 59) → M j9 = M j9 := fun j9 _ => rfl
  refine sC_Meeting_look hB  (fun  M1 h2 => ?_)
  obtain ⟨hB3, f4, -⟩ := h2
  have hF5 : ∀ j9 : Nat, ¬ (57 ≤ j9 ∧ j9 ≤ 59) → M1 j9 = M j9 := fun j9 h9 => ((f4 j9 (by omega)).trans (hF0 j9 h9))
  refine sC_Meeting_howOften hB3  (fun z6  h7 => ?_)
  obtain ⟨p8, -⟩ := h7
  exact hQ _ _ ⟨hB3, hF5, (by omega), trivial⟩
set_option maxHeartbeats 4000000 in
set_option maxRecDepth 100000 in
theorem sC_isSound {M : zM} {a0 : Int} (hB : BN wC M) (v0 : (-2147483648) ≤ a0 ∧ a0 ≤ 2147483647) {Q : Int → Prop} (hQ : ∀ (z : Int), (0 ≤ z ∧ z ≤ 1) ∧ ((z = 1 ∧ 1 ≤ a0 ∧ a0 ≤ 9) ∨ (z = 0 ∧ ¬ (1 ≤ a0 ∧ a0 ≤ 9))) ∧ True → Q z) : wC_isSound a0 M Q := by
  unfold wC_isSound
  refine sC_within hB (by omega) (by omega) (by omega) (fun z1  h2 => ?_)
  obtain ⟨p3, p4, -⟩ := h2
  exact hQ _ ⟨(by omega), (by omega), trivial⟩
set_option maxHeartbeats 4000000 in
set_option maxRecDepth 100000 in
theorem sC_Planner_marksTrue {M : zM}  (hB : BN wC M)  {Q : Int → Prop} (hQ : ∀ (z : Int), ((-2147483648) ≤ z ∧ z ≤ 2147483647) ∧ True → Q z) : wC_Planner_marksTrue  M Q := by
  unfold wC_Planner_marksTrue
  refine pL2_of (fun x1 x2 => (0 ≤ x2 ∧ x2 ≤ 1000000) ∧ True) (fun x1 x2 => (1000000 - x2).toNat) ⟨(by omega), trivial⟩ (fun K x1 x2 h4 k5 => ?_)
  obtain ⟨i3, -⟩ := h4
  have q6 : 0 ≤ (M 60 2) ∧ (M 60 2) ≤ 6 := BN.at hB (rfl : zcd wC 60 = 19) rfl
  have s7 : sI x2 = x2 := sIo (by omega) (by omega)
  have s8 : sI (M 60 2) = (M 60 2) := sIo (by omega) (by omega)
  refine ⟨fun c9 => ?_, fun c9 => ?_⟩
  · skip
    have s10 := sI_R x1
    exact hQ _ ⟨(by omega), trivial⟩
  · skip
    have o11 : 0 ≤ (sI x2) ∧ (sI x2) < 6 := by omega
    refine ⟨o11, ?_⟩
    have q12 : 0 ≤ (M 61 (sI x2).toNat) ∧ (M 61 (sI x2).toNat) ≤ 100000 := BN.at hB (rfl : zcd wC 61 = 20) rfl
    have s13 : sI (M 61 (sI x2).toNat) = (M 61 (sI x2).toNat) := sIo (by omega) (by omega)
    refine sC_Studio_heardInAll hB  (fun z14  h15 => ?_)
    obtain ⟨p16, -⟩ := h15
    have o17 : 0 ≤ (sI x2) ∧ (sI x2) < 6 := by omega
    refine ⟨o17, ?_⟩
    have q18 : 0 ≤ (M 62 (sI x2).toNat) ∧ (M 62 (sI x2).toNat) ≤ 9 := BN.at hB (rfl : zcd wC 62 = 21) rfl
    have q19 := shrI_R z14 (M 62 (sI x2).toNat)
    have q20 := andI_br (shrI z14 (M 62 (sI x2).toNat)) (c := 1) (by decide) (by decide)
    have q21 := shlI_R (andI (shrI z14 (M 62 (sI x2).toNat)) 1) x2
    have q22 := orI_R x1 (shlI (andI (shrI z14 (M 62 (sI x2).toNat)) 1) x2)
    intro t23 e24
    exact k5 _ _ ⟨(by omega), trivial⟩ (by omega)
set_option maxHeartbeats 4000000 in
set_option maxRecDepth 100000 in
theorem sC_kept {M : zM}  (hB : BN wC M)  {Q : Int → Prop} (hQ : ∀ (z : Int), ((-2147483648) ≤ z ∧ z ≤ 2147483647) ∧ True → Q z) : wC_kept  M Q := by
  unfold wC_kept
  refine sC_Planner_marksTrue hB  (fun z1  h2 => ?_)
  obtain ⟨p3, -⟩ := h2
  exact hQ _ ⟨(by omega), trivial⟩
theorem sC_fill {M : zM} {a0 : Nat} {a1 : Int} (hB : BN wC M) (lt_a0 : a0 < nC) {q : Nat} {lo hi : Int} (cd_a0 : zcd wC a0 = q) (v1 : -2147483648 ≤ a1 ∧ a1 ≤ 2147483647) (p0 : ∀ k, cbt q k = (lo, hi)) (p1 : lo ≤ a1) (p2 : a1 ≤ hi) {Q : zM → Prop} (hQ : ∀ M1, (BN wC M1 ∧ (∀ j9 : Nat, ¬ (j9 = a0) → M1 j9 = M j9) ∧ (∀ k : Nat, (k : Int) < (zln wC a0 : Int) → M1 a0 k = a1) ∧ True) → Q M1) : wC_fill a0 a1 M Q := by
  unfold wC_fill
  have hz : zln wC a0 < 10000 := (by decide : ∀ j, j < nC → zln wC j < 10000) a0 lt_a0
  refine wL1_of (fun x M4 => BN wC M4 ∧ (∀ j9 : Nat, ¬ (j9 = a0) → M4 j9 = M j9) ∧ (0 ≤ x ∧ x ≤ 1000000) ∧ (∀ k : Nat, (k : Int) < x → M4 a0 k = a1) ∧ True) (fun x _ => (1000000 - x).toNat) ⟨hB, fun _ _ => rfl, by omega, fun k h => by omega, trivial⟩ (fun K x M4 hI hK => ?_)
  obtain ⟨hB4, hF4, i1, i2, -⟩ := hI
  have s2 : sI x = x := sIo (by omega) (by omega)
  refine ⟨fun c => hQ _ ⟨hB4, hF4, fun k hk => i2 k (by omega), trivial⟩, fun c => ?_⟩
  refine ⟨⟨by omega, by omega⟩, ?_⟩
  intro M5 e5
  refine hK _ _ ⟨by rw [e5]; exact BN.up hB4 cd_a0 (p0 _) p1 p2, fun j9 h9 => by rw [e5, zup_row _ _ h9]; exact hF4 j9 h9, by omega, fun k hk => ?_, trivial⟩ (by omega)
  rw [e5]
  by_cases h : k = (sI x).toNat
  · subst h
    exact zup_s _ _ _ _
  · rw [zup_n _ _ (fun q => h q.2)]
    exact i2 k (by omega)
/-- where a row begins in a triangle of rows, each shorter by one -/
def trI (n : Int) : Nat → Int
  | 0 => 0
  | c + 1 => trI n c + (n - c)
end zz30_C02
section zz30_C03
/-! safety of the class, 3 -/
/-- the costs from a ring on come out of a cut and a start of it -/
def DPC (M : zM) (i : Nat) : Prop := ∀ w : Nat, (w : Int) < shlI 1 (M 60 2) → M (70 + i) w = 1000000 ∨ ∃ c t : Nat, (c : Int) < M (42 + 4 * i) 1 ∧ (t : Int) < M (42 + 4 * i) 1 - c ∧ M (70 + i) w = 5 * c + absI (t - M (41 + 4 * i) 2) + M (70 + i + 1) (andI w (xorI (M (65 + i) (trI (M (42 + 4 * i) 1) c + t).toNat) (-1))).toNat
theorem DPC.of {M N : zM} {i : Nat} (h : DPC M i) (h1 : N 60 = M 60) (h2 : N (41 + 4 * i) = M (41 + 4 * i)) (h3 : N (42 + 4 * i) = M (42 + 4 * i)) (h4 : N (65 + i) = M (65 + i)) (h5 : N (70 + i) = M (70 + i)) (h6 : N (70 + i + 1) = M (70 + i + 1)) : DPC N i := by
  unfold DPC
  rw [h1, h2, h3, h4, h5, h6]
  exact h
theorem sC_tell {M : zM} {a0 : Nat} {a1 : Int} (hB : BN wC M) (lt_a0 : a0 < nC) {q : Nat} (cd_a0 : zcd wC a0 = q) (v1 : 0 ≤ a1 ∧ a1 ≤ 41) (p0 : a0 ≠ 133) {Q : zM → Prop} (hQ : ∀ M1, (BN wC M1 ∧ (∀ j9 : Nat, ¬ (j9 = 0 ∨ j9 = 133) → M1 j9 = M j9) ∧ True) → Q M1) : wC_tell a0 a1 M Q := by
  unfold wC_tell
  have s1 : sI a1 = a1 := sIo (by omega) (by omega)
  intro M1 e1
  have r1 : M1 0 10 = min (sI a1) (min ((zln wC a0) : Int) 40) := by rw [e1]; exact zup_s _ _ _ _
  have s2 : sI (M1 0 10) = M1 0 10 := sIo (by omega) (by omega)
  have hB1 : BN wC M1 := by rw [e1]; exact BN.up hB (rfl : zcd wC 0 = 0) rfl (by omega) (by omega)
  refine ⟨p0, by omega, by omega, by omega, ?_⟩
  intro M7 e7
  refine hQ _ ⟨?_, fun j9 h9 => ?_, trivial⟩
  · rw [e7]
    exact BN.cp hB1 (rfl : zcd wC 133 = 49) (fun _ => rfl) (fun k => BN.r32 hB1 _ k)
  · rw [e7, zcp_row (by omega), e1, zup_row _ _ (by omega)]
set_option maxHeartbeats 4000000 in
set_option maxRecDepth 100000 in
theorem sC_Echo_weigh {M : zM} {a0 : Int} {a1 : Int} (hB : BN wC M) (v0 : 1 ≤ a0 ∧ a0 ≤ 9) (v1 : 0 ≤ a1 ∧ a1 ≤ 200) {Q : Int → zM → Prop} (hQ : ∀ (z : Int) (M1 : zM), BN wC M1 ∧ (∀ j9 : Nat, ¬ (j9 = 80) → M1 j9 = M j9) ∧ ((-2147483648) ≤ z ∧ z ≤ 2147483647) ∧ True → Q z M1) : wC_Echo_weigh a0 a1 M Q := by
  unfold wC_Echo_weigh
  have hF0 : ∀ j9 : Nat, ¬ (j9 = 80) → M j9 = M j9 := fun j9 _ => rfl
  have s1 : sI a0 = a0 := sIo (by omega) (by omega)
  have o2 : 0 ≤ (sI a0) ∧ (sI a0) < 10 := by omega
  refine ⟨o2, ?_⟩
  have q3 : (-2147483648) ≤ (M 80 (sI a0).toNat) ∧ (M 80 (sI a0).toNat) ≤ 2147483647 := BN.at hB (rfl : zcd wC 80 = 32) rfl
  have o4 : 0 ≤ (sI a0) ∧ (sI a0) < 10 := by omega
  refine ⟨o4, ?_⟩
  intro M5 e6
  have hB7 : BN wC M5 := by rw [e6]; exact BN.up hB (rfl : zcd wC 80 = 32) rfl (by omega) (by omega)
  have hF8 : ∀ j9 : Nat, ¬ (j9 = 80) → M5 j9 = M j9 := fun j9 h9 => by rw [e6]; exact (zup_row _ _ (by omega)).trans (hF0 j9 h9)
  have s9 : sI (M 80 (sI a0).toNat) = (M 80 (sI a0).toNat) := sIo (by omega) (by omega)
  exact hQ _ _ ⟨hB7, hF8, (by omega), trivial⟩
set_option maxHeartbeats 4000000 in
set_option maxRecDepth 100000 in
theorem sC_weight {M : zM} {a0 : Int} {a1 : Int} (hB : BN wC M) (v0 : (-2147483648) ≤ a0 ∧ a0 ≤ 2147483647) (v1 : (-2147483648) ≤ a1 ∧ a1 ≤ 2147483647) {Q : Int → zM → Prop} (hQ : ∀ (z : Int) (M1 : zM), BN wC M1 ∧ (∀ j9 : Nat, ¬ (j9 = 80) → M1 j9 = M j9) ∧ ((-2147483648) ≤ z ∧ z ≤ 2147483647) ∧ True → Q z M1) : wC_weight a0 a1 M Q := by
  unfold wC_weight
  have hF0 : ∀ j9 : Nat, ¬ (j9 = 80) → M j9 = M j9 := fun j9 _ => rfl
  refine sC_isSound hB (by omega) (fun z1  h2 => ?_)
  obtain ⟨p3, p4, -⟩ := h2
  refine ⟨fun c5 => ?_, fun c5 => ?_⟩
  · skip
    exact hQ _ _ ⟨hB, hF0, (by omega), trivial⟩
  · skip
    refine sC_within hB (by omega) (by omega) (by omega) (fun z6  h7 => ?_)
    obtain ⟨p8, p9, -⟩ := h7
    refine ⟨fun c10 => ?_, fun c10 => ?_⟩
    · skip
      refine sC_Echo_weigh hB (by omega) (by omega) (fun z11 M12 h13 => ?_)
      obtain ⟨hB14, f15, p16, -⟩ := h13
      have hF17 : ∀ j9 : Nat, ¬ (j9 = 80) → M12 j9 = M j9 := fun j9 h9 => ((f15 j9 (by omega)).trans (hF0 j9 h9))
      exact hQ _ _ ⟨hB14, hF17, (by omega), trivial⟩
    · skip
      exact hQ _ _ ⟨hB, hF0, (by omega), trivial⟩
set_option maxHeartbeats 4000000 in
set_option maxRecDepth 100000 in
theorem sC_Echo_place {M : zM} {a0 : Int} {a1 : Int} {a2 : Int} {a3 : Int} (hB : BN wC M) (v0 : 0 ≤ a0 ∧ a0 ≤ 20) (v1 : 0 ≤ a1 ∧ a1 ≤ 100) (v2 : 0 ≤ a2 ∧ a2 ≤ 20) (v3 : 0 ≤ a3 ∧ a3 ≤ 100) {Q : zM → Prop} (hQ : ∀ (M1 : zM), BN wC M1 ∧ (∀ j9 : Nat, ¬ (j9 = 78) → M1 j9 = M j9) ∧ (M1 78 0 = M 78 0) ∧ (M1 78 3 = a0) ∧ (M1 78 4 = a1) ∧ (M1 78 5 = a2) ∧ (M1 78 6 = a3) ∧ True → Q M1) : wC_Echo_place a0 a1 a2 a3 M Q := by
  unfold wC_Echo_place
  have hF0 : ∀ j9 : Nat, ¬ (j9 = 78) → M j9 = M j9 := fun j9 _ => rfl
  intro M1 e2
  have hB3 : BN wC M1 := by rw [e2]; exact BN.up hB (rfl : zcd wC 78 = 30) rfl (by omega) (by omega)
  have hF4 : ∀ j9 : Nat, ¬ (j9 = 78) → M1 j9 = M j9 := fun j9 h9 => by rw [e2]; exact (zup_row _ _ (by omega)).trans (hF0 j9 h9)
  have r5 : M1 78 0 = M 78 0 := by rw [e2]; exact zup_n _ _ (by omega)
  have r6 : M1 78 3 = a0 := by rw [e2]; exact zup_s _ _ _ _
  have r7 : M1 78 4 = M 78 4 := by rw [e2]; exact zup_n _ _ (by omega)
  have r8 : M1 78 5 = M 78 5 := by rw [e2]; exact zup_n _ _ (by omega)
  have r9 : M1 78 6 = M 78 6 := by rw [e2]; exact zup_n _ _ (by omega)
  intro M10 e11
  have hB12 : BN wC M10 := by rw [e11]; exact BN.up hB3 (rfl : zcd wC 78 = 30) rfl (by omega) (by omega)
  have hF13 : ∀ j9 : Nat, ¬ (j9 = 78) → M10 j9 = M j9 := fun j9 h9 => by rw [e11]; exact (zup_row _ _ (by omega)).trans (hF4 j9 h9)
  have r14 : M10 78 0 = M1 78 0 := by rw [e11]; exact zup_n _ _ (by omega)
  have r15 : M10 78 3 = M1 78 3 := by rw [e11]; exact zup_n _ _ (by omega)
  have r16 : M10 78 4 = a1 := by rw [e11]; exact zup_s _ _ _ _
  have r17 : M10 78 5 = M1 78 5 := by rw [e11]; exact zup_n _ _ (by omega)
  have r18 : M10 78 6 = M1 78 6 := by rw [e11]; exact zup_n _ _ (by omega)
  intro M19 e20
  have hB21 : BN wC M19 := by rw [e20]; exact BN.up hB12 (rfl : zcd wC 78 = 30) rfl (by omega) (by omega)
  have hF22 : ∀ j9 : Nat, ¬ (j9 = 78) → M19 j9 = M j9 := fun j9 h9 => by rw [e20]; exact (zup_row _ _ (by omega)).trans (hF13 j9 h9)
  have r23 : M19 78 0 = M10 78 0 := by rw [e20]; exact zup_n _ _ (by omega)
  have r24 : M19 78 3 = M10 78 3 := by rw [e20]; exact zup_n _ _ (by omega)
  have r25 : M19 78 4 = M10 78 4 := by rw [e20]; exact zup_n _ _ (by omega)
  have r26 : M19 78 5 = a2 := by rw [e20]; exact zup_s _ _ _ _
  have r27 : M19 78 6 = M10 78 6 := by rw [e20]; exact zup_n _ _ (by omega)
  intro M28 e29
  have hB30 : BN wC M28 := by rw [e29]; exact BN.up hB21 (rfl : zcd wC 78 = 30) rfl (by omega) (by omega)
  have hF31 : ∀ j9 : Nat, ¬ (j9 = 78) → M28 j9 = M j9 := fun j9 h9 => by rw [e29]; exact (zup_row _ _ (by omega)).trans (hF22 j9 h9)
  have r32 : M28 78 0 = M19 78 0 := by rw [e29]; exact zup_n _ _ (by omega)
  have r33 : M28 78 3 = M19 78 3 := by rw [e29]; exact zup_n _ _ (by omega)
  have r34 : M28 78 4 = M19 78 4 := by rw [e29]; exact zup_n _ _ (by omega)
  have r35 : M28 78 5 = M19 78 5 := by rw [e29]; exact zup_n _ _ (by omega)
  have r36 : M28 78 6 = a3 := by rw [e29]; exact zup_s _ _ _ _
  exact hQ _ ⟨hB30, hF31, (by omega), (by omega), (by omega), (by omega), (by omega), trivial⟩
set_option maxHeartbeats 4000000 in
set_option maxRecDepth 100000 in
theorem sC_heads {M : zM} {a0 : Int} {a1 : Int} {a2 : Int} {a3 : Int} (hB : BN wC M) (v0 : (-2147483648) ≤ a0 ∧ a0 ≤ 2147483647) (v1 : (-2147483648) ≤ a1 ∧ a1 ≤ 2147483647) (v2 : (-2147483648) ≤ a2 ∧ a2 ≤ 2147483647) (v3 : (-2147483648) ≤ a3 ∧ a3 ≤ 2147483647) {Q : Int → zM → Prop} (hQ : ∀ (z : Int) (M1 : zM), BN wC M1 ∧ (∀ j9 : Nat, ¬ (j9 = 78) → M1 j9 = M j9) ∧ (0 ≤ z ∧ z ≤ 1) ∧ ((z = 1 ∧ (1 ≤ a0 ∧ a0 ≤ 20) ∧ (0 ≤ a1 ∧ a1 ≤ 100) ∧ (1 ≤ a2 ∧ a2 ≤ 20) ∧ (0 ≤ a3 ∧ a3 ≤ 100)) ∨ (z = 0 ∧ ¬ ((1 ≤ a0 ∧ a0 ≤ 20) ∧ (0 ≤ a1 ∧ a1 ≤ 100) ∧ (1 ≤ a2 ∧ a2 ≤ 20) ∧ (0 ≤ a3 ∧ a3 ≤ 100)))) ∧ (M1 78 0 = M 78 0) ∧ True → Q z M1) : wC_heads a0 a1 a2 a3 M Q := by
  unfold wC_heads
  have hF0 : ∀ j9 : Nat, ¬ (j9 = 78) → M j9 = M j9 := fun j9 _ => rfl
  refine sC_within hB (by omega) (by omega) (by omega) (fun z1  h2 => ?_)
  obtain ⟨p3, p4, -⟩ := h2
  refine ⟨fun c5 => ?_, fun c5 => ?_⟩
  · skip
    exact hQ _ _ ⟨hB, hF0, (by omega), (by omega), (by omega), trivial⟩
  · skip
    refine sC_within hB (by omega) (by omega) (by omega) (fun z6  h7 => ?_)
    obtain ⟨p8, p9, -⟩ := h7
    refine ⟨fun c10 => ?_, fun c10 => ?_⟩
    · skip
      exact hQ _ _ ⟨hB, hF0, (by omega), (by omega), (by omega), trivial⟩
    · skip
      refine sC_within hB (by omega) (by omega) (by omega) (fun z11  h12 => ?_)
      obtain ⟨p13, p14, -⟩ := h12
      refine ⟨fun c15 => ?_, fun c15 => ?_⟩
      · skip
        exact hQ _ _ ⟨hB, hF0, (by omega), (by omega), (by omega), trivial⟩
      · skip
        refine sC_within hB (by omega) (by omega) (by omega) (fun z16  h17 => ?_)
        obtain ⟨p18, p19, -⟩ := h17
        refine ⟨fun c20 => ?_, fun c20 => ?_⟩
        · skip
          refine sC_Echo_place hB (by omega) (by omega) (by omega) (by omega) (fun  M21 h22 => ?_)
          obtain ⟨hB23, f24, p25, p26, p27, p28, p29, -⟩ := h22
          have hF30 : ∀ j9 : Nat, ¬ (j9 = 78) → M21 j9 = M j9 := fun j9 h9 => ((f24 j9 (by omega)).trans (hF0 j9 h9))
          exact hQ _ _ ⟨hB23, hF30, (by omega), (by omega), (by omega), trivial⟩
        · skip
          exact hQ _ _ ⟨hB, hF0, (by omega), (by omega), (by omega), trivial⟩
set_option maxHeartbeats 4000000 in
set_option maxRecDepth 100000 in
theorem sC_stop {M : zM} {a0 : Int} (hB : BN wC M) (v0 : (-2147483648) ≤ a0 ∧ a0 ≤ 2147483647) {Q : Int → zM → Prop} (hQ : ∀ (z : Int) (M1 : zM), BN wC M1 ∧ (∀ j9 : Nat, ¬ (j9 = 78) → M1 j9 = M j9) ∧ ((-2147483648) ≤ z ∧ z ≤ 2147483647) ∧ ((0 ≤ a0 ∧ a0 ≤ 2000 ∧ z = M 78 0 ∧ M1 78 0 = a0) ∨ (¬ (0 ≤ a0 ∧ a0 ≤ 2000) ∧ z = -1 ∧ M1 78 0 = M 78 0)) ∧ True → Q z M1) : wC_stop a0 M Q := by
  unfold wC_stop
  have hF0 : ∀ j9 : Nat, ¬ (j9 = 78) → M j9 = M j9 := fun j9 _ => rfl
  refine sC_within hB (by omega) (by omega) (by omega) (fun z1  h2 => ?_)
  obtain ⟨p3, p4, -⟩ := h2
  refine ⟨fun c5 => ?_, fun c5 => ?_⟩
  · skip
    have q6 : 0 ≤ (M 78 0) ∧ (M 78 0) ≤ 2000 := BN.at hB (rfl : zcd wC 78 = 30) rfl
    intro M7 e8
    have hB9 : BN wC M7 := by rw [e8]; exact BN.up hB (rfl : zcd wC 78 = 30) rfl (by omega) (by omega)
    have hF10 : ∀ j9 : Nat, ¬ (j9 = 78) → M7 j9 = M j9 := fun j9 h9 => by rw [e8]; exact (zup_row _ _ (by omega)).trans (hF0 j9 h9)
    have r11 : M7 78 0 = a0 := by rw [e8]; exact zup_s _ _ _ _
    have s12 : sI (M 78 0) = (M 78 0) := sIo (by omega) (by omega)
    exact hQ _ _ ⟨hB9, hF10, (by omega), (by omega), trivial⟩
  · skip
    exact hQ _ _ ⟨hB, hF0, (by omega), (by omega), trivial⟩
set_option maxHeartbeats 4000000 in
set_option maxRecDepth 100000 in
theorem sC_Echo_loudness {M : zM} {a0 : Int} (hB : BN wC M) (v0 : (-2147483648) ≤ a0 ∧ a0 ≤ 2147483647) {Q : Int → Prop} (hQ : ∀ (z : Int), ((-2147483648) ≤ z ∧ z ≤ 2147483647) ∧ True → Q z) : wC_Echo_loudness a0 M Q := by
  unfold wC_Echo_loudness
  refine pL2_of (fun x1 x2 => (1 ≤ x2 ∧ x2 ≤ 1000000) ∧ True) (fun x1 x2 => (1000000 - x2).toNat) ⟨(by omega), trivial⟩ (fun K x1 x2 h4 k5 => ?_)
  obtain ⟨i3, -⟩ := h4
  have s6 : sI x2 = x2 := sIo (by omega) (by omega)
  refine ⟨fun c7 => ?_, fun c7 => ?_⟩
  · skip
    have s8 := sI_R x1
    exact hQ _ ⟨(by omega), trivial⟩
  · skip
    have q9 := shrI_R a0 x2
    have q10 := andI_br (shrI a0 x2) (c := 1) (by decide) (by decide)
    have o11 : 0 ≤ (sI x2) ∧ (sI x2) < 10 := by omega
    refine ⟨o11, ?_⟩
    have q12 : (-2147483648) ≤ (M 80 (sI x2).toNat) ∧ (M 80 (sI x2).toNat) ≤ 2147483647 := BN.at hB (rfl : zcd wC 80 = 32) rfl
    intro t13 e14
    exact k5 _ _ ⟨(by omega), trivial⟩ (by omega)
set_option maxHeartbeats 4000000 in
set_option maxRecDepth 100000 in
theorem sC_Echo_outAt {M : zM} {a0 : Int} (hB : BN wC M) (v0 : (-2147483648) ≤ a0 ∧ a0 ≤ 2147483647) {Q : Int → Prop} (hQ : ∀ (z : Int), ((-2147483648) ≤ z ∧ z ≤ 2147483647) ∧ True → Q z) : wC_Echo_outAt a0 M Q := by
  unfold wC_Echo_outAt
  have s1 : sI a0 = a0 := sIo (by omega) (by omega)
  refine ⟨fun c2 => ?_, fun c2 => ?_⟩
  · skip
    exact hQ _ ⟨(by omega), trivial⟩
  · skip
    refine ⟨fun c3 => ?_, fun c3 => ?_⟩
    · skip
      exact hQ _ ⟨(by omega), trivial⟩
    · skip
      have o4 : 0 ≤ (sI a0) ∧ (sI a0) < 4001 := by omega
      refine ⟨o4, ?_⟩
      have q5 : (-2147483648) ≤ (M 81 (sI a0).toNat) ∧ (M 81 (sI a0).toNat) ≤ 2147483647 := BN.at hB (rfl : zcd wC 81 = 33) rfl
      have s6 : sI (M 81 (sI a0).toNat) = (M 81 (sI a0).toNat) := sIo (by omega) (by omega)
      exact hQ _ ⟨(by omega), trivial⟩
set_option maxHeartbeats 4000000 in
set_option maxRecDepth 100000 in
theorem sC_Echo_behind {M : zM} {a0 : Int} {a1 : Int} (hB : BN wC M) (v0 : (-2147483648) ≤ a0 ∧ a0 ≤ 2147483647) (v1 : (-2147483648) ≤ a1 ∧ a1 ≤ 2147483647) {Q : Int → Prop} (hQ : ∀ (z : Int), ((-2147483648) ≤ z ∧ z ≤ 2147483647) ∧ True → Q z) : wC_Echo_behind a0 a1 M Q := by
  unfold wC_Echo_behind
  refine sC_Echo_outAt hB (by omega) (fun z1  h2 => ?_)
  obtain ⟨p3, -⟩ := h2
  have s4 := sI_R (z1 * a1)
  have s5 := sI_R ((sI (z1 * a1)).tdiv 100)
  exact hQ _ ⟨(by omega), trivial⟩
set_option maxHeartbeats 4000000 in
set_option maxRecDepth 100000 in
theorem sC_Echo_run {M : zM} {a1 : Int} (hB : BN wC M) (v1 : 0 ≤ a1 ∧ a1 ≤ 4000) {Q : zM → Prop} (hQ : ∀ (M1 : zM), BN wC M1 ∧ (∀ j9 : Nat, ¬ (j9 = 81) → M1 j9 = M j9) ∧ True → Q M1) : wC_Echo_run a1 M Q := by
  unfold wC_Echo_run
  have hF0 : ∀ j9 : Nat, ¬ (j9 = 81) → M j9 = M j9 := fun j9 _ => rfl
  refine wL1_of (fun x1 M2 => BN wC M2 ∧ (∀ j9 : Nat, ¬ (j9 = 81) → M2 j9 = M j9) ∧ (0 ≤ x1 ∧ x1 ≤ 1000000) ∧ True) (fun x1 M2 => (1000000 - x1).toNat) ⟨hB, hF0, (by omega), trivial⟩ (fun K x1 M2 h6 k7 => ?_)
  obtain ⟨hB3, hF4, i5, -⟩ := h6
  have s8 : sI x1 = x1 := sIo (by omega) (by omega)
  have s9 : sI a1 = a1 := sIo (by omega) (by omega)
  refine ⟨fun c10 => ?_, fun c10 => ?_⟩
  · skip
    exact hQ _ ⟨hB3, hF4, trivial⟩
  · skip
    refine ⟨fun c11 => ?_, fun c11 => ?_⟩
    · skip
      exact hQ _ ⟨hB3, hF4, trivial⟩
    · skip
      have q12 : 0 ≤ (M2 78 0) ∧ (M2 78 0) ≤ 2000 := BN.at hB3 (rfl : zcd wC 78 = 30) rfl
      have s13 : sI (M2 78 0) = (M2 78 0) := sIo (by omega) (by omega)
      refine pJ1_dup ?_
      refine ⟨fun c14 => ?_, fun c14 => ?_⟩
      · skip
        have s15 : sI 0 = 0 := sIo (by omega) (by omega)
        have q16 : 0 ≤ (M2 78 3) ∧ (M2 78 3) ≤ 20 := BN.at hB3 (rfl : zcd wC 78 = 30) rfl
        have q17 : (-2147483648) ≤ (M2 78 4) ∧ (M2 78 4) ≤ 2147483647 := BN.at hB3 (rfl : zcd wC 78 = 30) rfl
        refine sC_Echo_behind hB3 (by omega) (by omega) (fun z18  h19 => ?_)
        obtain ⟨p20, -⟩ := h19
        have q21 : 0 ≤ (M2 78 5) ∧ (M2 78 5) ≤ 20 := BN.at hB3 (rfl : zcd wC 78 = 30) rfl
        have q22 : (-2147483648) ≤ (M2 78 6) ∧ (M2 78 6) ≤ 2147483647 := BN.at hB3 (rfl : zcd wC 78 = 30) rfl
        refine sC_Echo_behind hB3 (by omega) (by omega) (fun z23  h24 => ?_)
        obtain ⟨p25, -⟩ := h24
        have s26 := sI_R ((0 + z18) + z23)
        have o27 : 0 ≤ (sI x1) ∧ (sI x1) < 4001 := by omega
        refine ⟨o27, ?_⟩
        intro M28 e29
        have hB30 : BN wC M28 := by rw [e29]; exact BN.up hB3 (rfl : zcd wC 81 = 33) rfl (by omega) (by omega)
        have hF31 : ∀ j9 : Nat, ¬ (j9 = 81) → M28 j9 = M j9 := fun j9 h9 => by rw [e29]; exact (zup_row _ _ (by omega)).trans (hF4 j9 h9)
        exact k7 _ _ ⟨hB30, hF31, (by omega), trivial⟩ (by omega)
      · skip
        refine sC_Studio_heardInAll hB3  (fun z32  h33 => ?_)
        obtain ⟨p34, -⟩ := h33
        refine sC_Echo_loudness hB3 (by omega) (fun z35  h36 => ?_)
        obtain ⟨p37, -⟩ := h36
        have s38 : sI z35 = z35 := sIo (by omega) (by omega)
        have q39 : 0 ≤ (M2 78 3) ∧ (M2 78 3) ≤ 20 := BN.at hB3 (rfl : zcd wC 78 = 30) rfl
        have q40 : (-2147483648) ≤ (M2 78 4) ∧ (M2 78 4) ≤ 2147483647 := BN.at hB3 (rfl : zcd wC 78 = 30) rfl
        refine sC_Echo_behind hB3 (by omega) (by omega) (fun z41  h42 => ?_)
        obtain ⟨p43, -⟩ := h42
        have q44 : 0 ≤ (M2 78 5) ∧ (M2 78 5) ≤ 20 := BN.at hB3 (rfl : zcd wC 78 = 30) rfl
        have q45 : (-2147483648) ≤ (M2 78 6) ∧ (M2 78 6) ≤ 2147483647 := BN.at hB3 (rfl : zcd wC 78 = 30) rfl
        refine sC_Echo_behind hB3 (by omega) (by omega) (fun z46  h47 => ?_)
        obtain ⟨p48, -⟩ := h47
        have s49 := sI_R ((z35 + z41) + z46)
        have o50 : 0 ≤ (sI x1) ∧ (sI x1) < 4001 := by omega
        refine ⟨o50, ?_⟩
        intro M51 e52
        have hB53 : BN wC M51 := by rw [e52]; exact BN.up hB3 (rfl : zcd wC 81 = 33) rfl (by omega) (by omega)
        have hF54 : ∀ j9 : Nat, ¬ (j9 = 81) → M51 j9 = M j9 := fun j9 h9 => by rw [e52]; exact (zup_row _ _ (by omega)).trans (hF4 j9 h9)
        exact k7 _ _ ⟨hB53, hF54, (by omega), trivial⟩ (by omega)
set_option maxHeartbeats 4000000 in
set_option maxRecDepth 100000 in
theorem sC_out {M : zM} {a0 : Int} (hB : BN wC M) (v0 : (-2147483648) ≤ a0 ∧ a0 ≤ 2147483647) {Q : Int → zM → Prop} (hQ : ∀ (z : Int) (M1 : zM), BN wC M1 ∧ (∀ j9 : Nat, ¬ (j9 = 81) → M1 j9 = M j9) ∧ ((-2147483648) ≤ z ∧ z ≤ 2147483647) ∧ True → Q z M1) : wC_out a0 M Q := by
  unfold wC_out
  have hF0 : ∀ j9 : Nat, ¬ (j9 = 81) → M j9 = M j9 := fun j9 _ => rfl
  refine sC_within hB (by omega) (by omega) (by omega) (fun z1  h2 => ?_)
  obtain ⟨p3, p4, -⟩ := h2
  refine ⟨fun c5 => ?_, fun c5 => ?_⟩
  · skip
    refine sC_Echo_run hB (by omega) (fun  M6 h7 => ?_)
    obtain ⟨hB8, f9, -⟩ := h7
    have hF10 : ∀ j9 : Nat, ¬ (j9 = 81) → M6 j9 = M j9 := fun j9 h9 => ((f9 j9 (by omega)).trans (hF0 j9 h9))
    refine sC_Echo_outAt hB8 (by omega) (fun z11  h12 => ?_)
    obtain ⟨p13, -⟩ := h12
    exact hQ _ _ ⟨hB8, hF10, (by omega), trivial⟩
  · skip
    exact hQ _ _ ⟨hB, hF0, (by omega), trivial⟩
set_option maxHeartbeats 4000000 in
set_option maxRecDepth 100000 in
theorem sC_Echo_firstSilence {M : zM}  (hB : BN wC M)  {Q : Int → Prop} (hQ : ∀ (z : Int), ((-2147483648) ≤ z ∧ z ≤ 2147483647) ∧ True → Q z) : wC_Echo_firstSilence  M Q := by
  unfold wC_Echo_firstSilence
  have q1 : 0 ≤ (M 78 0) ∧ (M 78 0) ≤ 2000 := BN.at hB (rfl : zcd wC 78 = 30) rfl
  refine pL2_of (fun x2 x3 => (0 ≤ x3 ∧ x3 ≤ 1000000) ∧ True) (fun x2 x3 => (1000000 - x3).toNat) ⟨(by omega), trivial⟩ (fun K x2 x3 h5 k6 => ?_)
  obtain ⟨i4, -⟩ := h5
  have s7 : sI x3 = x3 := sIo (by omega) (by omega)
  refine ⟨fun c8 => ?_, fun c8 => ?_⟩
  · skip
    exact hQ _ ⟨(by omega), trivial⟩
  · skip
    refine sC_Echo_outAt hB (by omega) (fun z9  h10 => ?_)
    obtain ⟨p11, -⟩ := h10
    refine pJ1_dup ?_
    refine ⟨fun c12 => ?_, fun c12 => ?_⟩
    · skip
      have s13 : sI 0 = 0 := sIo (by omega) (by omega)
      refine ⟨fun c14 => ?_, fun c14 => ?_⟩
      · skip
        exact k6 _ _ ⟨(by omega), trivial⟩ (by omega)
      · skip
        have s15 : sI ((x3 - 20) + 1) = ((x3 - 20) + 1) := sIo (by omega) (by omega)
        exact hQ _ ⟨(by omega), trivial⟩
    · skip
      have s16 := sI_R (x2 + 1)
      refine ⟨fun c17 => ?_, fun c17 => ?_⟩
      · skip
        exact k6 _ _ ⟨(by omega), trivial⟩ (by omega)
      · skip
        have s18 : sI ((x3 - 20) + 1) = ((x3 - 20) + 1) := sIo (by omega) (by omega)
        exact hQ _ ⟨(by omega), trivial⟩
set_option maxHeartbeats 4000000 in
set_option maxRecDepth 100000 in
theorem sC_Echo_alike {M : zM} {a0 : Int} {a1 : Int} (hB : BN wC M) (v0 : 0 ≤ a0 ∧ a0 ≤ 4000) (v1 : 0 ≤ a1 ∧ a1 ≤ 4000) {Q : Int → Prop} (hQ : ∀ (z : Int), (0 ≤ z ∧ z ≤ 1) ∧ True → Q z) : wC_Echo_alike a0 a1 M Q := by
  unfold wC_Echo_alike
  refine pL1_of (fun x1 => (0 ≤ x1 ∧ x1 ≤ 1000000) ∧ True) (fun x1 => (1000000 - x1).toNat) ⟨(by omega), trivial⟩ (fun K x1 h3 k4 => ?_)
  obtain ⟨i2, -⟩ := h3
  have s5 : sI x1 = x1 := sIo (by omega) (by omega)
  refine ⟨fun c6 => ?_, fun c6 => ?_⟩
  · skip
    exact hQ _ ⟨(by omega), trivial⟩
  · skip
    refine sC_Echo_outAt hB (by omega) (fun z7  h8 => ?_)
    obtain ⟨p9, -⟩ := h8
    refine sC_Echo_outAt hB (by omega) (fun z10  h11 => ?_)
    obtain ⟨p12, -⟩ := h11
    refine ⟨fun c13 => ?_, fun c13 => ?_⟩
    · skip
      exact k4 _ ⟨(by omega), trivial⟩ (by omega)
    · skip
      exact hQ _ ⟨(by omega), trivial⟩
set_option maxHeartbeats 4000000 in
set_option maxRecDepth 100000 in
theorem sC_Echo_comesBackIn {M : zM}  (hB : BN wC M)  {Q : Int → Prop} (hQ : ∀ (z : Int), ((-1) ≤ z ∧ z ≤ 4000) ∧ True → Q z) : wC_Echo_comesBackIn  M Q := by
  unfold wC_Echo_comesBackIn
  refine pL1_of (fun x1 => (1 ≤ x1 ∧ x1 ≤ 1000000) ∧ True) (fun x1 => (1000000 - x1).toNat) ⟨(by omega), trivial⟩ (fun K x1 h3 k4 => ?_)
  obtain ⟨i2, -⟩ := h3
  have q5 : 0 ≤ (M 78 0) ∧ (M 78 0) ≤ 2000 := BN.at hB (rfl : zcd wC 78 = 30) rfl
  have s6 : sI (3981 - x1) = (3981 - x1) := sIo (by omega) (by omega)
  have s7 : sI (M 78 0) = (M 78 0) := sIo (by omega) (by omega)
  refine ⟨fun c8 => ?_, fun c8 => ?_⟩
  · skip
    exact hQ _ ⟨(by omega), trivial⟩
  · skip
    refine sC_Echo_alike hB (by omega) (by omega) (fun z9  h10 => ?_)
    obtain ⟨p11, -⟩ := h10
    refine ⟨fun c12 => ?_, fun c12 => ?_⟩
    · skip
      exact k4 _ ⟨(by omega), trivial⟩ (by omega)
    · skip
      have s13 : sI x1 = x1 := sIo (by omega) (by omega)
      exact hQ _ ⟨(by omega), trivial⟩
set_option maxHeartbeats 4000000 in
set_option maxRecDepth 100000 in
theorem sC_Echo_fate {M : zM}  (hB : BN wC M)  {Q : Int → zM → Prop} (hQ : ∀ (z : Int) (M1 : zM), BN wC M1 ∧ (∀ j9 : Nat, ¬ (j9 = 79 ∨ j9 = 81) → M1 j9 = M j9) ∧ ((-2147483648) ≤ z ∧ z ≤ 2147483647) ∧ True → Q z M1) : wC_Echo_fate  M Q := by
  unfold wC_Echo_fate
  have hF0 : ∀ j9 : Nat, ¬ (j9 = 79 ∨ j9 = 81) → M j9 = M j9 := fun j9 _ => rfl
  refine sC_Echo_run hB (by omega) (fun  M1 h2 => ?_)
  obtain ⟨hB3, f4, -⟩ := h2
  have hF5 : ∀ j9 : Nat, ¬ (j9 = 79 ∨ j9 = 81) → M1 j9 = M j9 := fun j9 h9 => ((f4 j9 (by omega)).trans (hF0 j9 h9))
  refine sC_Echo_firstSilence hB3  (fun z6  h7 => ?_)
  obtain ⟨p8, -⟩ := h7
  refine ⟨fun c9 => ?_, fun c9 => ?_⟩
  · skip
    refine sC_Echo_comesBackIn hB3  (fun z10  h11 => ?_)
    obtain ⟨p12, -⟩ := h11
    refine ⟨fun c13 => ?_, fun c13 => ?_⟩
    · skip
      refine pL1_of (fun x14 => ((-1) ≤ x14 ∧ x14 ≤ 1000000) ∧ True) (fun x14 => (x14 + 1).toNat) ⟨(by omega), trivial⟩ (fun K x14 h16 k17 => ?_)
      obtain ⟨i15, -⟩ := h16
      have q18 : 0 ≤ (M1 78 0) ∧ (M1 78 0) ≤ 2000 := BN.at hB3 (rfl : zcd wC 78 = 30) rfl
      have s19 : sI x14 = x14 := sIo (by omega) (by omega)
      have s20 : sI (M1 78 0) = (M1 78 0) := sIo (by omega) (by omega)
      refine pJ0_dup ?_
      refine ⟨fun c21 => ?_, fun c21 => ?_⟩
      · skip
        intro M22 e23
        have hB24 : BN wC M22 := by rw [e23]; exact BN.up hB3 (rfl : zcd wC 79 = 31) rfl (by omega) (by omega)
        have hF25 : ∀ j9 : Nat, ¬ (j9 = 79 ∨ j9 = 81) → M22 j9 = M j9 := fun j9 h9 => by rw [e23]; exact (zup_row _ _ (by omega)).trans (hF5 j9 h9)
        intro M26 e27
        have hB28 : BN wC M26 := by rw [e27]; exact BN.up hB24 (rfl : zcd wC 79 = 31) rfl (by omega) (by omega)
        have hF29 : ∀ j9 : Nat, ¬ (j9 = 79 ∨ j9 = 81) → M26 j9 = M j9 := fun j9 h9 => by rw [e27]; exact (zup_row _ _ (by omega)).trans (hF25 j9 h9)
        exact hQ _ _ ⟨hB28, hF29, (by omega), trivial⟩
      · skip
        refine sC_Echo_outAt hB3 (by omega) (fun z30  h31 => ?_)
        obtain ⟨p32, -⟩ := h31
        refine sC_Echo_outAt hB3 (by omega) (fun z33  h34 => ?_)
        obtain ⟨p35, -⟩ := h34
        refine ⟨fun c36 => ?_, fun c36 => ?_⟩
        · skip
          intro M37 e38
          have hB39 : BN wC M37 := by rw [e38]; exact BN.up hB3 (rfl : zcd wC 79 = 31) rfl (by omega) (by omega)
          have hF40 : ∀ j9 : Nat, ¬ (j9 = 79 ∨ j9 = 81) → M37 j9 = M j9 := fun j9 h9 => by rw [e38]; exact (zup_row _ _ (by omega)).trans (hF5 j9 h9)
          intro M41 e42
          have hB43 : BN wC M41 := by rw [e42]; exact BN.up hB39 (rfl : zcd wC 79 = 31) rfl (by omega) (by omega)
          have hF44 : ∀ j9 : Nat, ¬ (j9 = 79 ∨ j9 = 81) → M41 j9 = M j9 := fun j9 h9 => by rw [e42]; exact (zup_row _ _ (by omega)).trans (hF40 j9 h9)
          exact hQ _ _ ⟨hB43, hF44, (by omega), trivial⟩
        · skip
          exact k17 _ ⟨(by omega), trivial⟩ (by omega)
    · skip
      exact hQ _ _ ⟨hB3, hF5, (by omega), trivial⟩
  · skip
    exact hQ _ _ ⟨hB3, hF5, (by omega), trivial⟩
set_option maxHeartbeats 4000000 in
set_option maxRecDepth 100000 in
theorem sC_dies {M : zM}  (hB : BN wC M)  {Q : Int → zM → Prop} (hQ : ∀ (z : Int) (M1 : zM), BN wC M1 ∧ (∀ j9 : Nat, ¬ (j9 = 79 ∨ j9 = 81 ∨ j9 = 0 ∨ j9 = 133) → M1 j9 = M j9) ∧ ((-2147483648) ≤ z ∧ z ≤ 2147483647) ∧ True → Q z M1) : wC_dies  M Q := by
  unfold wC_dies
  have hF0 : ∀ j9 : Nat, ¬ (j9 = 79 ∨ j9 = 81 ∨ j9 = 0 ∨ j9 = 133) → M j9 = M j9 := fun j9 _ => rfl
  refine sC_Echo_fate hB  (fun z1 M2 h3 => ?_)
  obtain ⟨hB4, f5, p6, -⟩ := h3
  have hF7 : ∀ j9 : Nat, ¬ (j9 = 79 ∨ j9 = 81 ∨ j9 = 0 ∨ j9 = 133) → M2 j9 = M j9 := fun j9 h9 => ((f5 j9 (by omega)).trans (hF0 j9 h9))
  refine ⟨fun c8 => ?_, fun c8 => ?_⟩
  · skip
    exact hQ _ _ ⟨hB4, hF7, (by omega), trivial⟩
  · skip
    refine sC_tell hB4 (by decide) (rfl : zcd wC 79 = 31) (by omega) (by decide) (fun  M9 h10 => ?_)
    obtain ⟨hB11, f12, -⟩ := h10
    have hF13 : ∀ j9 : Nat, ¬ (j9 = 79 ∨ j9 = 81 ∨ j9 = 0 ∨ j9 = 133) → M9 j9 = M j9 := fun j9 h9 => ((f12 j9 (by omega)).trans (hF7 j9 h9))
    exact hQ _ _ ⟨hB11, hF13, (by omega), trivial⟩
set_option maxHeartbeats 4000000 in
set_option maxRecDepth 100000 in
theorem sC_OldTape_add {M : zM} {a0 : Int} (hB : BN wC M) (v0 : (-2147483648) ≤ a0 ∧ a0 ≤ 2147483647) {Q : Int → zM → Prop} (hQ : ∀ (z : Int) (M1 : zM), BN wC M1 ∧ (∀ j9 : Nat, ¬ (82 ≤ j9 ∧ j9 ≤ 85) → M1 j9 = M j9) ∧ ((-2147483648) ≤ z ∧ z ≤ 2147483647) ∧ ((M 82 1 < 60 ∧ z = M 82 1 + 1 ∧ M1 82 1 = M 82 1 + 1) ∨ (M 82 1 = 60 ∧ z = -1 ∧ M1 82 1 = M 82 1)) ∧ True → Q z M1) : wC_OldTape_add a0 M Q := by
  unfold wC_OldTape_add
  have hF0 : ∀ j9 : Nat, ¬ (82 ≤ j9 ∧ j9 ≤ 85) → M j9 = M j9 := fun j9 _ => rfl
  have q1 : 0 ≤ (M 82 1) ∧ (M 82 1) ≤ 60 := BN.at hB (rfl : zcd wC 82 = 34) rfl
  have s2 : sI (M 82 1) = (M 82 1) := sIo (by omega) (by omega)
  refine ⟨fun c3 => ?_, fun c3 => ?_⟩
  · skip
    have o5 : 0 ≤ (sI (M 82 1)) ∧ (sI (M 82 1)) < 60 := by omega
    refine ⟨o5, ?_⟩
    intro M6 e7
    have hB8 : BN wC M6 := by rw [e7]; exact BN.up hB (rfl : zcd wC 83 = 35) rfl (by omega) (by omega)
    have hF9 : ∀ j9 : Nat, ¬ (82 ≤ j9 ∧ j9 ≤ 85) → M6 j9 = M j9 := fun j9 h9 => by rw [e7]; exact (zup_row _ _ (by omega)).trans (hF0 j9 h9)
    have r10 : M6 82 1 = M 82 1 := by rw [e7]; exact zup_n _ _ (by omega)
    have q11 : 0 ≤ (M6 82 1) ∧ (M6 82 1) ≤ 60 := BN.at hB8 (rfl : zcd wC 82 = 34) rfl
    intro M12 e13
    have hB14 : BN wC M12 := by rw [e13]; exact BN.up hB8 (rfl : zcd wC 82 = 34) rfl (by omega) (by omega)
    have hF15 : ∀ j9 : Nat, ¬ (82 ≤ j9 ∧ j9 ≤ 85) → M12 j9 = M j9 := fun j9 h9 => by rw [e13]; exact (zup_row _ _ (by omega)).trans (hF9 j9 h9)
    have r16 : M12 82 1 = ((M6 82 1) + 1) := by rw [e13]; exact zup_s _ _ _ _
    have q17 : 0 ≤ (M12 82 1) ∧ (M12 82 1) ≤ 60 := BN.at hB14 (rfl : zcd wC 82 = 34) rfl
    have s18 : sI (M12 82 1) = (M12 82 1) := sIo (by omega) (by omega)
    exact hQ _ _ ⟨hB14, hF15, (by omega), (by omega), trivial⟩
  · skip
    exact hQ _ _ ⟨hB, hF0, (by omega), (by omega), trivial⟩
set_option maxHeartbeats 4000000 in
set_option maxRecDepth 100000 in
theorem sC_tape {M : zM} {a0 : Int} (hB : BN wC M) (v0 : (-2147483648) ≤ a0 ∧ a0 ≤ 2147483647) {Q : Int → zM → Prop} (hQ : ∀ (z : Int) (M1 : zM), BN wC M1 ∧ (∀ j9 : Nat, ¬ (82 ≤ j9 ∧ j9 ≤ 85) → M1 j9 = M j9) ∧ ((-2147483648) ≤ z ∧ z ≤ 2147483647) ∧ (((a0 = -1 ∨ andI a0 (-1023) = 0) ∧ M 82 1 < 60 ∧ z = M 82 1 + 1 ∧ M1 82 1 = M 82 1 + 1) ∨ (¬ ((a0 = -1 ∨ andI a0 (-1023) = 0) ∧ M 82 1 < 60) ∧ z = -1 ∧ M1 82 1 = M 82 1)) ∧ True → Q z M1) : wC_tape a0 M Q := by
  unfold wC_tape
  have hF0 : ∀ j9 : Nat, ¬ (82 ≤ j9 ∧ j9 ≤ 85) → M j9 = M j9 := fun j9 _ => rfl
  have s1 : sI a0 = a0 := sIo (by omega) (by omega)
  refine ⟨fun c2 => ?_, fun c2 => ?_⟩
  · skip
    refine sC_OldTape_add hB (by omega) (fun z3 M4 h5 => ?_)
    obtain ⟨hB6, f7, p8, p9, -⟩ := h5
    have hF10 : ∀ j9 : Nat, ¬ (82 ≤ j9 ∧ j9 ≤ 85) → M4 j9 = M j9 := fun j9 h9 => ((f7 j9 (by omega)).trans (hF0 j9 h9))
    exact hQ _ _ ⟨hB6, hF10, (by omega), (by omega), trivial⟩
  · skip
    refine sC_isSounds hB (by omega) (fun z11  h12 => ?_)
    obtain ⟨p13, p14, -⟩ := h12
    refine ⟨fun c15 => ?_, fun c15 => ?_⟩
    · skip
      exact hQ _ _ ⟨hB, hF0, (by omega), (by omega), trivial⟩
    · skip
      refine sC_OldTape_add hB (by omega) (fun z16 M17 h18 => ?_)
      obtain ⟨hB19, f20, p21, p22, -⟩ := h18
      have hF23 : ∀ j9 : Nat, ¬ (82 ≤ j9 ∧ j9 ≤ 85) → M17 j9 = M j9 := fun j9 h9 => ((f20 j9 (by omega)).trans (hF0 j9 h9))
      exact hQ _ _ ⟨hB19, hF23, (by omega), (by omega), trivial⟩
set_option maxHeartbeats 4000000 in
set_option maxRecDepth 100000 in
theorem sC_take {M : zM} {a0 : Int} {a1 : Int} (hB : BN wC M) (v0 : (-2147483648) ≤ a0 ∧ a0 ≤ 2147483647) (v1 : (-2147483648) ≤ a1 ∧ a1 ≤ 2147483647) {Q : Int → zM → Prop} (hQ : ∀ (z : Int) (M1 : zM), BN wC M1 ∧ (∀ j9 : Nat, ¬ (82 ≤ j9 ∧ j9 ≤ 85) → M1 j9 = M j9) ∧ (0 ≤ z ∧ z ≤ 1) ∧ ((((0 ≤ a0 ∧ a0 ≤ 100000) ∧ (0 ≤ a1 ∧ a1 ≤ 60)) ∧ z = 1 ∧ M1 82 1 = a1) ∨ (¬ ((0 ≤ a0 ∧ a0 ≤ 100000) ∧ (0 ≤ a1 ∧ a1 ≤ 60)) ∧ z = 0 ∧ M1 82 1 = M 82 1)) ∧ True → Q z M1) : wC_take a0 a1 M Q := by
  unfold wC_take
  have hF0 : ∀ j9 : Nat, ¬ (82 ≤ j9 ∧ j9 ≤ 85) → M j9 = M j9 := fun j9 _ => rfl
  refine sC_within hB (by omega) (by omega) (by omega) (fun z1  h2 => ?_)
  obtain ⟨p3, p4, -⟩ := h2
  refine ⟨fun c5 => ?_, fun c5 => ?_⟩
  · skip
    exact hQ _ _ ⟨hB, hF0, (by omega), (by omega), trivial⟩
  · skip
    refine sC_within hB (by omega) (by omega) (by omega) (fun z6  h7 => ?_)
    obtain ⟨p8, p9, -⟩ := h7
    refine ⟨fun c10 => ?_, fun c10 => ?_⟩
    · skip
      intro M11 e12
      have hB13 : BN wC M11 := by rw [e12]; exact BN.up hB (rfl : zcd wC 82 = 34) rfl (by omega) (by omega)
      have hF14 : ∀ j9 : Nat, ¬ (82 ≤ j9 ∧ j9 ≤ 85) → M11 j9 = M j9 := fun j9 h9 => by rw [e12]; exact (zup_row _ _ (by omega)).trans (hF0 j9 h9)
      have r15 : M11 82 1 = 0 := by rw [e12]; exact zup_s _ _ _ _
      refine wL1_of (fun x16 M17 => BN wC M17 ∧ (∀ j9 : Nat, ¬ (82 ≤ j9 ∧ j9 ≤ 85) → M17 j9 = M j9) ∧ (0 ≤ x16 ∧ x16 ≤ 1000000) ∧ (M17 82 1 = x16) ∧ (x16 ≤ a1) ∧ True) (fun x16 M17 => (1000000 - x16).toNat) ⟨hB13, hF14, (by omega), (by omega), (by omega), trivial⟩ (fun K x16 M17 h23 k24 => ?_)
      obtain ⟨hB18, hF19, i20, i21, i22, -⟩ := h23
      have s25 : sI x16 = x16 := sIo (by omega) (by omega)
      have s26 : sI a1 = a1 := sIo (by omega) (by omega)
      refine ⟨fun c27 => ?_, fun c27 => ?_⟩
      · skip
        exact hQ _ _ ⟨hB18, hF19, (by omega), (by omega), trivial⟩
      · skip
        have s28 := sI_R (a0 + x16)
        refine sC_Studio_heardInAll hB18  (fun z29  h30 => ?_)
        obtain ⟨p31, -⟩ := h30
        refine sC_OldTape_add hB18 (by omega) (fun z32 M33 h34 => ?_)
        obtain ⟨hB35, f36, p37, p38, -⟩ := h34
        have hF39 : ∀ j9 : Nat, ¬ (82 ≤ j9 ∧ j9 ≤ 85) → M33 j9 = M j9 := fun j9 h9 => ((f36 j9 (by omega)).trans (hF19 j9 h9))
        exact k24 _ _ ⟨hB35, hF39, (by omega), (by omega), (by omega), trivial⟩ (by omega)
    · skip
      exact hQ _ _ ⟨hB, hF0, (by omega), (by omega), trivial⟩
set_option maxHeartbeats 4000000 in
set_option maxRecDepth 100000 in
theorem sC_OldTape_makeGap {M : zM} {a0 : Int} (hB : BN wC M) (v0 : (-2147483648) ≤ a0 ∧ a0 ≤ 2147483647) {Q : Int → zM → Prop} (hQ : ∀ (z : Int) (M1 : zM), BN wC M1 ∧ (∀ j9 : Nat, ¬ (82 ≤ j9 ∧ j9 ≤ 85) → M1 j9 = M j9) ∧ (0 ≤ z ∧ z ≤ 1) ∧ ((z = 1 ∧ 0 ≤ a0 ∧ a0 < M 82 1) ∨ (z = 0 ∧ ¬ (0 ≤ a0 ∧ a0 < M 82 1))) ∧ (M1 82 1 = M 82 1) ∧ True → Q z M1) : wC_OldTape_makeGap a0 M Q := by
  unfold wC_OldTape_makeGap
  have hF0 : ∀ j9 : Nat, ¬ (82 ≤ j9 ∧ j9 ≤ 85) → M j9 = M j9 := fun j9 _ => rfl
  have s1 : sI a0 = a0 := sIo (by omega) (by omega)
  refine ⟨fun c2 => ?_, fun c2 => ?_⟩
  · skip
    exact hQ _ _ ⟨hB, hF0, (by omega), (by omega), (by omega), trivial⟩
  · skip
    have q3 : 0 ≤ (M 82 1) ∧ (M 82 1) ≤ 60 := BN.at hB (rfl : zcd wC 82 = 34) rfl
    have s4 : sI (M 82 1) = (M 82 1) := sIo (by omega) (by omega)
    refine ⟨fun c5 => ?_, fun c5 => ?_⟩
    · skip
      have o6 : 0 ≤ (sI a0) ∧ (sI a0) < 60 := by omega
      refine ⟨o6, ?_⟩
      intro M7 e8
      have hB9 : BN wC M7 := by rw [e8]; exact BN.up hB (rfl : zcd wC 83 = 35) rfl (by omega) (by omega)
      have hF10 : ∀ j9 : Nat, ¬ (82 ≤ j9 ∧ j9 ≤ 85) → M7 j9 = M j9 := fun j9 h9 => by rw [e8]; exact (zup_row _ _ (by omega)).trans (hF0 j9 h9)
      have r11 : M7 82 1 = M 82 1 := by rw [e8]; exact zup_n _ _ (by omega)
      exact hQ _ _ ⟨hB9, hF10, (by omega), (by omega), (by omega), trivial⟩
    · skip
      exact hQ _ _ ⟨hB, hF0, (by omega), (by omega), (by omega), trivial⟩
set_option maxHeartbeats 4000000 in
set_option maxRecDepth 100000 in
theorem sC_gap {M : zM} {a0 : Int} (hB : BN wC M) (v0 : (-2147483648) ≤ a0 ∧ a0 ≤ 2147483647) {Q : Int → zM → Prop} (hQ : ∀ (z : Int) (M1 : zM), BN wC M1 ∧ (∀ j9 : Nat, ¬ (82 ≤ j9 ∧ j9 ≤ 85) → M1 j9 = M j9) ∧ (0 ≤ z ∧ z ≤ 1) ∧ ((z = 1 ∧ 0 ≤ a0 ∧ a0 < M 82 1) ∨ (z = 0 ∧ ¬ (0 ≤ a0 ∧ a0 < M 82 1))) ∧ (M1 82 1 = M 82 1) ∧ True → Q z M1) : wC_gap a0 M Q := by
  unfold wC_gap
  have hF0 : ∀ j9 : Nat, ¬ (82 ≤ j9 ∧ j9 ≤ 85) → M j9 = M j9 := fun j9 _ => rfl
  refine sC_OldTape_makeGap hB (by omega) (fun z1 M2 h3 => ?_)
  obtain ⟨hB4, f5, p6, p7, p8, -⟩ := h3
  have hF9 : ∀ j9 : Nat, ¬ (82 ≤ j9 ∧ j9 ≤ 85) → M2 j9 = M j9 := fun j9 h9 => ((f5 j9 (by omega)).trans (hF0 j9 h9))
  exact hQ _ _ ⟨hB4, hF9, (by omega), (by omega), (by omega), trivial⟩
set_option maxHeartbeats 4000000 in
set_option maxRecDepth 100000 in
theorem sC_wipe {M : zM}  (hB : BN wC M)  {Q : Int → zM → Prop} (hQ : ∀ (z : Int) (M1 : zM), BN wC M1 ∧ (∀ j9 : Nat, ¬ (82 ≤ j9 ∧ j9 ≤ 85) → M1 j9 = M j9) ∧ ((-2147483648) ≤ z ∧ z ≤ 2147483647) ∧ (z = M 82 1 ∧ M1 82 1 = 0) ∧ True → Q z M1) : wC_wipe  M Q := by
  unfold wC_wipe
  have hF0 : ∀ j9 : Nat, ¬ (82 ≤ j9 ∧ j9 ≤ 85) → M j9 = M j9 := fun j9 _ => rfl
  have q1 : 0 ≤ (M 82 1) ∧ (M 82 1) ≤ 60 := BN.at hB (rfl : zcd wC 82 = 34) rfl
  intro M2 e3
  have hB4 : BN wC M2 := by rw [e3]; exact BN.up hB (rfl : zcd wC 82 = 34) rfl (by omega) (by omega)
  have hF5 : ∀ j9 : Nat, ¬ (82 ≤ j9 ∧ j9 ≤ 85) → M2 j9 = M j9 := fun j9 h9 => by rw [e3]; exact (zup_row _ _ (by omega)).trans (hF0 j9 h9)
  have r6 : M2 82 1 = 0 := by rw [e3]; exact zup_s _ _ _ _
  have s7 : sI (M 82 1) = (M 82 1) := sIo (by omega) (by omega)
  exact hQ _ _ ⟨hB4, hF5, (by omega), (by omega), trivial⟩
set_option maxHeartbeats 4000000 in
set_option maxRecDepth 100000 in
theorem sC_OldTape_spanFits {M : zM} {a0 : Int} (hB : BN wC M) (v0 : 1 ≤ a0 ∧ a0 ≤ 24) {Q : Int → zM → Prop} (hQ : ∀ (z : Int) (M1 : zM), BN wC M1 ∧ (∀ j9 : Nat, ¬ (82 ≤ j9 ∧ j9 ≤ 85) → M1 j9 = M j9) ∧ (0 ≤ z ∧ z ≤ 1) ∧ (M1 82 1 = M 82 1) ∧ True → Q z M1) : wC_OldTape_spanFits a0 M Q := by
  unfold wC_OldTape_spanFits
  have hF0 : ∀ j9 : Nat, ¬ (82 ≤ j9 ∧ j9 ≤ 85) → M j9 = M j9 := fun j9 _ => rfl
  refine sC_fill hB (by decide) (rfl : zcd wC 84 = 36) (by omega) (fun _ => rfl) (by omega) (by omega) (fun  M1 h2 => ?_)
  obtain ⟨hB3, f4, p5, -⟩ := h2
  have hF6 : ∀ j9 : Nat, ¬ (82 ≤ j9 ∧ j9 ≤ 85) → M1 j9 = M j9 := fun j9 h9 => ((f4 j9 (by omega)).trans (hF0 j9 h9))
  have r7 : M1 82 1 = M 82 1 := congrFun (f4 82 (by omega)) 1
  refine wL1_of (fun x8 M9 => BN wC M9 ∧ (∀ j9 : Nat, ¬ (82 ≤ j9 ∧ j9 ≤ 85) → M9 j9 = M j9) ∧ (0 ≤ x8 ∧ x8 ≤ 1000000) ∧ (M9 82 1 = M 82 1) ∧ True) (fun x8 M9 => (1000000 - x8).toNat) ⟨hB3, hF6, (by omega), (by omega), trivial⟩ (fun K x8 M9 h14 k15 => ?_)
  obtain ⟨hB10, hF11, i12, i13, -⟩ := h14
  have q16 : 0 ≤ (M9 82 1) ∧ (M9 82 1) ≤ 60 := BN.at hB10 (rfl : zcd wC 82 = 34) rfl
  have s17 : sI x8 = x8 := sIo (by omega) (by omega)
  have s18 : sI (M9 82 1) = (M9 82 1) := sIo (by omega) (by omega)
  refine ⟨fun c19 => ?_, fun c19 => ?_⟩
  · skip
    exact hQ _ _ ⟨hB10, hF11, (by omega), (by omega), trivial⟩
  · skip
    refine sC_by hB10 (by omega) (fun z20  h21 => ?_)
    obtain ⟨p22, p23, p24, -⟩ := h21
    have o25 : 0 ≤ z20 ∧ z20 < 24 := by omega
    refine ⟨o25, ?_⟩
    have q26 : (-2147483648) ≤ (M9 84 z20.toNat) ∧ (M9 84 z20.toNat) ≤ 2147483647 := BN.at hB10 (rfl : zcd wC 84 = 36) rfl
    have s27 : sI (M9 84 z20.toNat) = (M9 84 z20.toNat) := sIo (by omega) (by omega)
    refine ⟨fun c28 => ?_, fun c28 => ?_⟩
    · skip
      have o29 : 0 ≤ (sI x8) ∧ (sI x8) < 60 := by omega
      refine ⟨o29, ?_⟩
      have q30 : (-2147483648) ≤ (M9 83 (sI x8).toNat) ∧ (M9 83 (sI x8).toNat) ≤ 2147483647 := BN.at hB10 (rfl : zcd wC 83 = 35) rfl
      have s31 : sI (M9 83 (sI x8).toNat) = (M9 83 (sI x8).toNat) := sIo (by omega) (by omega)
      refine ⟨fun c32 => ?_, fun c32 => ?_⟩
      · skip
        exact k15 _ _ ⟨hB10, hF11, (by omega), (by omega), trivial⟩ (by omega)
      · skip
        have o33 : 0 ≤ (sI x8) ∧ (sI x8) < 60 := by omega
        refine ⟨o33, ?_⟩
        have o35 : 0 ≤ z20 ∧ z20 < 24 := by omega
        refine ⟨o35, ?_⟩
        refine ⟨fun c37 => ?_, fun c37 => ?_⟩
        · skip
          exact k15 _ _ ⟨hB10, hF11, (by omega), (by omega), trivial⟩ (by omega)
        · skip
          exact hQ _ _ ⟨hB10, hF11, (by omega), (by omega), trivial⟩
    · skip
      have o38 : 0 ≤ (sI x8) ∧ (sI x8) < 60 := by omega
      refine ⟨o38, ?_⟩
      have q39 : (-2147483648) ≤ (M9 83 (sI x8).toNat) ∧ (M9 83 (sI x8).toNat) ≤ 2147483647 := BN.at hB10 (rfl : zcd wC 83 = 35) rfl
      have o40 : 0 ≤ z20 ∧ z20 < 24 := by omega
      refine ⟨o40, ?_⟩
      intro M41 e42
      have hB43 : BN wC M41 := by rw [e42]; exact BN.up hB10 (rfl : zcd wC 84 = 36) rfl (by omega) (by omega)
      have hF44 : ∀ j9 : Nat, ¬ (82 ≤ j9 ∧ j9 ≤ 85) → M41 j9 = M j9 := fun j9 h9 => by rw [e42]; exact (zup_row _ _ (by omega)).trans (hF11 j9 h9)
      have r45 : M41 82 1 = M9 82 1 := by rw [e42]; exact zup_n _ _ (by omega)
      exact k15 _ _ ⟨hB43, hF44, (by omega), (by omega), trivial⟩ (by omega)
set_option maxHeartbeats 4000000 in
set_option maxRecDepth 100000 in
theorem sC_OldTape_spanNumber {M : zM} {a0 : Int} (hB : BN wC M) (v0 : (-2147483648) ≤ a0 ∧ a0 ≤ 2147483647) {Q : Int → zM → Prop} (hQ : ∀ (z : Int) (M1 : zM), BN wC M1 ∧ (∀ j9 : Nat, ¬ (82 ≤ j9 ∧ j9 ≤ 85) → M1 j9 = M j9) ∧ ((-2147483648) ≤ z ∧ z ≤ 2147483647) ∧ (M1 82 1 = M 82 1) ∧ True → Q z M1) : wC_OldTape_spanNumber a0 M Q := by
  unfold wC_OldTape_spanNumber
  have hF0 : ∀ j9 : Nat, ¬ (82 ≤ j9 ∧ j9 ≤ 85) → M j9 = M j9 := fun j9 _ => rfl
  refine wL2_of (fun x1 x2 M3 => BN wC M3 ∧ (∀ j9 : Nat, ¬ (82 ≤ j9 ∧ j9 ≤ 85) → M3 j9 = M j9) ∧ (0 ≤ x1 ∧ x1 ≤ 1000000) ∧ (1 ≤ x2 ∧ x2 ≤ 1000000) ∧ (x1 ≤ x2) ∧ (M3 82 1 = M 82 1) ∧ True) (fun x1 x2 M3 => (100 - x2).toNat) ⟨hB, hF0, (by omega), (by omega), (by omega), (by omega), trivial⟩ (fun K x1 x2 M3 h10 k11 => ?_)
  obtain ⟨hB4, hF5, i6, i7, i8, i9, -⟩ := h10
  have s12 : sI x2 = x2 := sIo (by omega) (by omega)
  refine ⟨fun c13 => ?_, fun c13 => ?_⟩
  · skip
    exact hQ _ _ ⟨hB4, hF5, (by omega), (by omega), trivial⟩
  · skip
    refine sC_OldTape_spanFits hB4 (by omega) (fun z14 M15 h16 => ?_)
    obtain ⟨hB17, f18, p19, p20, -⟩ := h16
    have hF21 : ∀ j9 : Nat, ¬ (82 ≤ j9 ∧ j9 ≤ 85) → M15 j9 = M j9 := fun j9 h9 => ((f18 j9 (by omega)).trans (hF5 j9 h9))
    refine ⟨fun c22 => ?_, fun c22 => ?_⟩
    · skip
      exact k11 _ _ _ ⟨hB17, hF21, (by omega), (by omega), (by omega), (by omega), trivial⟩ (by omega)
    · skip
      have s23 : sI x1 = x1 := sIo (by omega) (by omega)
      have s24 : sI a0 = a0 := sIo (by omega) (by omega)
      refine ⟨fun c25 => ?_, fun c25 => ?_⟩
      · skip
        exact k11 _ _ _ ⟨hB17, hF21, (by omega), (by omega), (by omega), (by omega), trivial⟩ (by omega)
      · skip
        exact hQ _ _ ⟨hB17, hF21, (by omega), (by omega), trivial⟩
end zz30_C03
section zz30_C04
/-! safety of the class, 4 -/
set_option maxHeartbeats 4000000 in
set_option maxRecDepth 100000 in
theorem sC_span {M : zM} {a0 : Int} (hB : BN wC M) (v0 : (-2147483648) ≤ a0 ∧ a0 ≤ 2147483647) {Q : Int → zM → Prop} (hQ : ∀ (z : Int) (M1 : zM), BN wC M1 ∧ (∀ j9 : Nat, ¬ (82 ≤ j9 ∧ j9 ≤ 85) → M1 j9 = M j9) ∧ ((-2147483648) ≤ z ∧ z ≤ 2147483647) ∧ (M1 82 1 = M 82 1) ∧ True → Q z M1) : wC_span a0 M Q := by
  unfold wC_span
  have hF0 : ∀ j9 : Nat, ¬ (82 ≤ j9 ∧ j9 ≤ 85) → M j9 = M j9 := fun j9 _ => rfl
  refine sC_OldTape_spanNumber hB (by omega) (fun z1 M2 h3 => ?_)
  obtain ⟨hB4, f5, p6, p7, -⟩ := h3
  have hF8 : ∀ j9 : Nat, ¬ (82 ≤ j9 ∧ j9 ≤ 85) → M2 j9 = M j9 := fun j9 h9 => ((f5 j9 (by omega)).trans (hF0 j9 h9))
  exact hQ _ _ ⟨hB4, hF8, (by omega), (by omega), trivial⟩
theorem sC_OldTape_makeGreatest {M : zM} {a0 : Nat} {a1 : Int} (hB : BN wC M) (lt_a0 : a0 < nC) {q : Nat} (cd_a0 : zcd wC a0 = q) (v1 : 1 ≤ a1 ∧ a1 ≤ 24) (p0 : ∀ k, cbt q k = (-2147483648, 2147483647)) (p1 : zln wC a0 = 24) {Q : zM → Prop} (hQ : ∀ M1, (BN wC M1 ∧ (∀ j9 : Nat, ¬ (j9 = a0) → M1 j9 = M j9) ∧ True) → Q M1) : wC_OldTape_makeGreatest a0 a1 M Q := by
  unfold wC_OldTape_makeGreatest
  refine sC_fill hB lt_a0 cd_a0 (by omega) p0 (by omega) (by omega) (fun M1 hp => ?_)
  obtain ⟨hB1, hF1, -, -⟩ := hp
  refine wL1_of (fun x M4 => BN wC M4 ∧ (∀ j9 : Nat, ¬ (j9 = a0) → M4 j9 = M j9) ∧ (0 ≤ x ∧ x ≤ 1000000) ∧ True) (fun x _ => (1000000 - x).toNat) ⟨hB1, hF1, by omega, trivial⟩ (fun K x M4 hI hK => ?_)
  obtain ⟨hB4, hF4, i1, -⟩ := hI
  have s2 : sI x = x := sIo (by omega) (by omega)
  have b1 : 0 ≤ M4 82 1 ∧ M4 82 1 ≤ 60 := BN.at hB4 (rfl : zcd wC 82 = 34) rfl
  have s3 : sI (M4 82 1) = M4 82 1 := sIo (by omega) (by omega)
  refine ⟨fun c => hQ _ ⟨hB4, hF4, trivial⟩, fun c => ⟨by omega, fun c2 => ?_, fun c2 => ?_⟩⟩
  · exact hK _ _ ⟨hB4, hF4, by omega, trivial⟩ (by omega)
  · refine sC_by hB4 (by omega) (fun z hp => ?_)
    obtain ⟨q1, q2, q3, -⟩ := hp
    refine ⟨by omega, by omega, by omega, ?_⟩
    intro M5 e5
    have r := andI_R (M4 a0 z.toNat) (M4 83 (sI x).toNat)
    exact hK _ _ ⟨by rw [e5]; exact BN.up hB4 cd_a0 (p0 _) r.1 r.2, fun j9 h9 => by rw [e5, zup_row _ _ h9]; exact hF4 j9 h9, by omega, trivial⟩ (by omega)
set_option maxHeartbeats 4000000 in
set_option maxRecDepth 100000 in
theorem sC_OldTape_pairFits {M : zM} {a0 : Int} {a1 : Int} (hB : BN wC M) (v0 : 1 ≤ a0 ∧ a0 ≤ 24) (v1 : 1 ≤ a1 ∧ a1 ≤ 24) {Q : Int → zM → Prop} (hQ : ∀ (z : Int) (M1 : zM), BN wC M1 ∧ (∀ j9 : Nat, ¬ (82 ≤ j9 ∧ j9 ≤ 85) → M1 j9 = M j9) ∧ (0 ≤ z ∧ z ≤ 1) ∧ (M1 82 1 = M 82 1) ∧ True → Q z M1) : wC_OldTape_pairFits a0 a1 M Q := by
  unfold wC_OldTape_pairFits
  have hF0 : ∀ j9 : Nat, ¬ (82 ≤ j9 ∧ j9 ≤ 85) → M j9 = M j9 := fun j9 _ => rfl
  refine sC_OldTape_makeGreatest hB (by decide) (rfl : zcd wC 84 = 36) (by omega) (fun _ => rfl) rfl (fun  M1 h2 => ?_)
  obtain ⟨hB3, f4, -⟩ := h2
  have hF5 : ∀ j9 : Nat, ¬ (82 ≤ j9 ∧ j9 ≤ 85) → M1 j9 = M j9 := fun j9 h9 => ((f4 j9 (by omega)).trans (hF0 j9 h9))
  have r6 : M1 82 1 = M 82 1 := congrFun (f4 82 (by omega)) 1
  refine sC_OldTape_makeGreatest hB3 (by decide) (rfl : zcd wC 85 = 37) (by omega) (fun _ => rfl) rfl (fun  M7 h8 => ?_)
  obtain ⟨hB9, f10, -⟩ := h8
  have hF11 : ∀ j9 : Nat, ¬ (82 ≤ j9 ∧ j9 ≤ 85) → M7 j9 = M j9 := fun j9 h9 => ((f10 j9 (by omega)).trans (hF5 j9 h9))
  have r12 : M7 82 1 = M1 82 1 := congrFun (f10 82 (by omega)) 1
  refine pL1_of (fun x13 => (0 ≤ x13 ∧ x13 ≤ 1000000) ∧ True) (fun x13 => (1000000 - x13).toNat) ⟨(by omega), trivial⟩ (fun K x13 h15 k16 => ?_)
  obtain ⟨i14, -⟩ := h15
  have q17 : 0 ≤ (M7 82 1) ∧ (M7 82 1) ≤ 60 := BN.at hB9 (rfl : zcd wC 82 = 34) rfl
  have s18 : sI x13 = x13 := sIo (by omega) (by omega)
  have s19 : sI (M7 82 1) = (M7 82 1) := sIo (by omega) (by omega)
  refine ⟨fun c20 => ?_, fun c20 => ?_⟩
  · skip
    exact hQ _ _ ⟨hB9, hF11, (by omega), (by omega), trivial⟩
  · skip
    have o21 : 0 ≤ (sI x13) ∧ (sI x13) < 60 := by omega
    refine ⟨o21, ?_⟩
    have q22 : (-2147483648) ≤ (M7 83 (sI x13).toNat) ∧ (M7 83 (sI x13).toNat) ≤ 2147483647 := BN.at hB9 (rfl : zcd wC 83 = 35) rfl
    have s23 : sI (M7 83 (sI x13).toNat) = (M7 83 (sI x13).toNat) := sIo (by omega) (by omega)
    refine ⟨fun c24 => ?_, fun c24 => ?_⟩
    · skip
      exact k16 _ ⟨(by omega), trivial⟩ (by omega)
    · skip
      refine sC_by hB9 (by omega) (fun z25  h26 => ?_)
      obtain ⟨p27, p28, p29, -⟩ := h26
      have o30 : 0 ≤ z25 ∧ z25 < 24 := by omega
      refine ⟨o30, ?_⟩
      have q31 : (-2147483648) ≤ (M7 84 z25.toNat) ∧ (M7 84 z25.toNat) ≤ 2147483647 := BN.at hB9 (rfl : zcd wC 84 = 36) rfl
      refine sC_by hB9 (by omega) (fun z32  h33 => ?_)
      obtain ⟨p34, p35, p36, -⟩ := h33
      have o37 : 0 ≤ z32 ∧ z32 < 24 := by omega
      refine ⟨o37, ?_⟩
      have q38 : (-2147483648) ≤ (M7 85 z32.toNat) ∧ (M7 85 z32.toNat) ≤ 2147483647 := BN.at hB9 (rfl : zcd wC 85 = 37) rfl
      have q39 := orI_R (M7 84 z25.toNat) (M7 85 z32.toNat)
      have o40 : 0 ≤ (sI x13) ∧ (sI x13) < 60 := by omega
      refine ⟨o40, ?_⟩
      refine ⟨fun c42 => ?_, fun c42 => ?_⟩
      · skip
        exact k16 _ ⟨(by omega), trivial⟩ (by omega)
      · skip
        exact hQ _ _ ⟨hB9, hF11, (by omega), (by omega), trivial⟩
set_option maxHeartbeats 4000000 in
set_option maxRecDepth 100000 in
theorem sC_OldTape_pairNumber {M : zM} {a0 : Int} (hB : BN wC M) (v0 : (-2147483648) ≤ a0 ∧ a0 ≤ 2147483647) {Q : Int → zM → Prop} (hQ : ∀ (z : Int) (M1 : zM), BN wC M1 ∧ (∀ j9 : Nat, ¬ (82 ≤ j9 ∧ j9 ≤ 85) → M1 j9 = M j9) ∧ ((-1) ≤ z ∧ z ≤ 2424) ∧ (M1 82 1 = M 82 1) ∧ (z = -1 ∨ (101 ≤ z ∧ z ≤ 2424 ∧ 1 ≤ z % 100 ∧ z % 100 ≤ 24)) ∧ True → Q z M1) : wC_OldTape_pairNumber a0 M Q := by
  unfold wC_OldTape_pairNumber
  have hF0 : ∀ j9 : Nat, ¬ (82 ≤ j9 ∧ j9 ≤ 85) → M j9 = M j9 := fun j9 _ => rfl
  refine wL2_of (fun x1 x2 M3 => BN wC M3 ∧ (∀ j9 : Nat, ¬ (82 ≤ j9 ∧ j9 ≤ 85) → M3 j9 = M j9) ∧ (0 ≤ x1 ∧ x1 ≤ 1000000) ∧ (2 ≤ x2 ∧ x2 ≤ 1000000) ∧ (x1 ≤ 50 * x2) ∧ (M3 82 1 = M 82 1) ∧ True) (fun x1 x2 M3 => (100 - x2).toNat) ⟨hB, hF0, (by omega), (by omega), (by omega), (by omega), trivial⟩ (fun K x1 x2 M3 h10 k11 => ?_)
  obtain ⟨hB4, hF5, i6, i7, i8, i9, -⟩ := h10
  have s12 : sI x2 = x2 := sIo (by omega) (by omega)
  refine ⟨fun c13 => ?_, fun c13 => ?_⟩
  · skip
    exact hQ _ _ ⟨hB4, hF5, (by omega), (by omega), (by omega), trivial⟩
  · skip
    have s14 : sI (x2 - 24) = (x2 - 24) := sIo (by omega) (by omega)
    refine wL2_of (fun x15 x16 M17 => BN wC M17 ∧ (∀ j9 : Nat, ¬ (82 ≤ j9 ∧ j9 ≤ 85) → M17 j9 = M j9) ∧ (0 ≤ x15 ∧ x15 ≤ 1000000) ∧ (1 ≤ x16 ∧ x16 ≤ 1000000) ∧ (x15 ≤ 50 * x2 + x16) ∧ (x2 - 24 ≤ x16) ∧ (x16 ≤ x2) ∧ (M17 82 1 = M 82 1) ∧ True) (fun x15 x16 M17 => (100 - x16).toNat) ⟨hB4, hF5, (by omega), (by omega), (by omega), (by omega), (by omega), (by omega), trivial⟩ (fun K x15 x16 M17 h26 k27 => ?_)
    obtain ⟨hB18, hF19, i20, i21, i22, i23, i24, i25, -⟩ := h26
    have s28 : sI x16 = x16 := sIo (by omega) (by omega)
    have s29 : sI (x2 - x16) = (x2 - x16) := sIo (by omega) (by omega)
    refine ⟨fun c30 => ?_, fun c30 => ?_⟩
    · skip
      exact k11 _ _ _ ⟨hB18, hF19, (by omega), (by omega), (by omega), (by omega), trivial⟩ (by omega)
    · skip
      refine sC_OldTape_pairFits hB18 (by omega) (by omega) (fun z31 M32 h33 => ?_)
      obtain ⟨hB34, f35, p36, p37, -⟩ := h33
      have hF38 : ∀ j9 : Nat, ¬ (82 ≤ j9 ∧ j9 ≤ 85) → M32 j9 = M j9 := fun j9 h9 => ((f35 j9 (by omega)).trans (hF19 j9 h9))
      refine ⟨fun c39 => ?_, fun c39 => ?_⟩
      · skip
        exact k27 _ _ _ ⟨hB34, hF38, (by omega), (by omega), (by omega), (by omega), (by omega), (by omega), trivial⟩ (by omega)
      · skip
        have s40 : sI x15 = x15 := sIo (by omega) (by omega)
        have s41 : sI a0 = a0 := sIo (by omega) (by omega)
        refine ⟨fun c42 => ?_, fun c42 => ?_⟩
        · skip
          exact k27 _ _ _ ⟨hB34, hF38, (by omega), (by omega), (by omega), (by omega), (by omega), (by omega), trivial⟩ (by omega)
        · skip
          have s43 : sI (((100 * x16) + x2) - x16) = (((100 * x16) + x2) - x16) := sIo (by omega) (by omega)
          exact hQ _ _ ⟨hB34, hF38, (by omega), (by omega), (by omega), trivial⟩
set_option maxHeartbeats 4000000 in
set_option maxRecDepth 100000 in
theorem sC_pair {M : zM} {a0 : Int} (hB : BN wC M) (v0 : (-2147483648) ≤ a0 ∧ a0 ≤ 2147483647) {Q : Int → zM → Prop} (hQ : ∀ (z : Int) (M1 : zM), BN wC M1 ∧ (∀ j9 : Nat, ¬ (82 ≤ j9 ∧ j9 ≤ 85) → M1 j9 = M j9) ∧ ((-2147483648) ≤ z ∧ z ≤ 2147483647) ∧ (M1 82 1 = M 82 1) ∧ True → Q z M1) : wC_pair a0 M Q := by
  unfold wC_pair
  have hF0 : ∀ j9 : Nat, ¬ (82 ≤ j9 ∧ j9 ≤ 85) → M j9 = M j9 := fun j9 _ => rfl
  refine sC_OldTape_pairNumber hB (by omega) (fun z1 M2 h3 => ?_)
  obtain ⟨hB4, f5, p6, p7, p8, -⟩ := h3
  have hF9 : ∀ j9 : Nat, ¬ (82 ≤ j9 ∧ j9 ≤ 85) → M2 j9 = M j9 := fun j9 h9 => ((f5 j9 (by omega)).trans (hF0 j9 h9))
  exact hQ _ _ ⟨hB4, hF9, (by omega), (by omega), trivial⟩
set_option maxHeartbeats 4000000 in
set_option maxRecDepth 100000 in
theorem sC_OldTape_mendedAt {M : zM} {a0 : Int} (hB : BN wC M) (v0 : (-2147483648) ≤ a0 ∧ a0 ≤ 2147483647) {Q : Int → zM → Prop} (hQ : ∀ (z : Int) (M1 : zM), BN wC M1 ∧ (∀ j9 : Nat, ¬ (82 ≤ j9 ∧ j9 ≤ 85) → M1 j9 = M j9) ∧ ((-2147483648) ≤ z ∧ z ≤ 2147483647) ∧ (M1 82 1 = M 82 1) ∧ True → Q z M1) : wC_OldTape_mendedAt a0 M Q := by
  unfold wC_OldTape_mendedAt
  have hF0 : ∀ j9 : Nat, ¬ (82 ≤ j9 ∧ j9 ≤ 85) → M j9 = M j9 := fun j9 _ => rfl
  have s1 : sI a0 = a0 := sIo (by omega) (by omega)
  refine ⟨fun c2 => ?_, fun c2 => ?_⟩
  · skip
    exact hQ _ _ ⟨hB, hF0, (by omega), (by omega), trivial⟩
  · skip
    have q3 : 0 ≤ (M 82 1) ∧ (M 82 1) ≤ 60 := BN.at hB (rfl : zcd wC 82 = 34) rfl
    have s4 : sI (M 82 1) = (M 82 1) := sIo (by omega) (by omega)
    refine ⟨fun c5 => ?_, fun c5 => ?_⟩
    · skip
      refine sC_OldTape_pairNumber hB (by omega) (fun z6 M7 h8 => ?_)
      obtain ⟨hB9, f10, p11, p12, p13, -⟩ := h8
      have hF14 : ∀ j9 : Nat, ¬ (82 ≤ j9 ∧ j9 ≤ 85) → M7 j9 = M j9 := fun j9 h9 => ((f10 j9 (by omega)).trans (hF0 j9 h9))
      refine ⟨fun c15 => ?_, fun c15 => ?_⟩
      · skip
        have q16 : (z6.tdiv 100) = z6 / 100 := Int.tdiv_eq_ediv_of_nonneg (by omega)
        refine sC_by hB9 (by omega) (fun z17  h18 => ?_)
        obtain ⟨p19, p20, p21, -⟩ := h18
        have o22 : 0 ≤ z17 ∧ z17 < 24 := by omega
        refine ⟨o22, ?_⟩
        have q23 : (-2147483648) ≤ (M7 84 z17.toNat) ∧ (M7 84 z17.toNat) ≤ 2147483647 := BN.at hB9 (rfl : zcd wC 84 = 36) rfl
        have q24 : (z6.tmod 100) = z6 % 100 := Int.tmod_eq_emod_of_nonneg (by omega)
        refine sC_by hB9 (by omega) (fun z25  h26 => ?_)
        obtain ⟨p27, p28, p29, -⟩ := h26
        have o30 : 0 ≤ z25 ∧ z25 < 24 := by omega
        refine ⟨o30, ?_⟩
        have q31 : (-2147483648) ≤ (M7 85 z25.toNat) ∧ (M7 85 z25.toNat) ≤ 2147483647 := BN.at hB9 (rfl : zcd wC 85 = 37) rfl
        have q32 := orI_R (M7 84 z17.toNat) (M7 85 z25.toNat)
        exact hQ _ _ ⟨hB9, hF14, (by omega), (by omega), trivial⟩
      · skip
        exact hQ _ _ ⟨hB9, hF14, (by omega), (by omega), trivial⟩
    · skip
      exact hQ _ _ ⟨hB, hF0, (by omega), (by omega), trivial⟩
set_option maxHeartbeats 4000000 in
set_option maxRecDepth 100000 in
theorem sC_mended {M : zM} {a0 : Int} (hB : BN wC M) (v0 : (-2147483648) ≤ a0 ∧ a0 ≤ 2147483647) {Q : Int → zM → Prop} (hQ : ∀ (z : Int) (M1 : zM), BN wC M1 ∧ (∀ j9 : Nat, ¬ (82 ≤ j9 ∧ j9 ≤ 85) → M1 j9 = M j9) ∧ ((-2147483648) ≤ z ∧ z ≤ 2147483647) ∧ (M1 82 1 = M 82 1) ∧ True → Q z M1) : wC_mended a0 M Q := by
  unfold wC_mended
  have hF0 : ∀ j9 : Nat, ¬ (82 ≤ j9 ∧ j9 ≤ 85) → M j9 = M j9 := fun j9 _ => rfl
  refine sC_OldTape_mendedAt hB (by omega) (fun z1 M2 h3 => ?_)
  obtain ⟨hB4, f5, p6, p7, -⟩ := h3
  have hF8 : ∀ j9 : Nat, ¬ (82 ≤ j9 ∧ j9 ≤ 85) → M2 j9 = M j9 := fun j9 h9 => ((f5 j9 (by omega)).trans (hF0 j9 h9))
  exact hQ _ _ ⟨hB4, hF8, (by omega), (by omega), trivial⟩
set_option maxHeartbeats 4000000 in
set_option maxRecDepth 100000 in
theorem sC_Pieces_digit {M : zM} {a0 : Int} {a1 : Int} (hB : BN wC M) (v0 : (-2147483648) ≤ a0 ∧ a0 ≤ 2147483647) (v1 : 0 ≤ a1 ∧ a1 ≤ 7) {Q : Int → Prop} (hQ : ∀ (z : Int), (0 ≤ z ∧ z ≤ 15) ∧ True → Q z) : wC_Pieces_digit a0 a1 M Q := by
  unfold wC_Pieces_digit
  have q1 := ushrI_R a0 (28 - (4 * a1))
  have q2 := andI_br (ushrI a0 (28 - (4 * a1))) (c := 15) (by decide) (by decide)
  exact hQ _ ⟨(by omega), trivial⟩
set_option maxHeartbeats 4000000 in
set_option maxRecDepth 100000 in
theorem sC_Pieces_add {M : zM} {a0 : Int} {a1 : Int} (hB : BN wC M) (v0 : (-2147483648) ≤ a0 ∧ a0 ≤ 2147483647) (v1 : 1 ≤ a1 ∧ a1 ≤ 8) {Q : Int → zM → Prop} (hQ : ∀ (z : Int) (M1 : zM), BN wC M1 ∧ (∀ j9 : Nat, ¬ (86 ≤ j9 ∧ j9 ≤ 95) → M1 j9 = M j9) ∧ ((-2147483648) ≤ z ∧ z ≤ 2147483647) ∧ ((M 86 0 < 5 ∧ z = M 86 0 ∧ M1 86 0 = M 86 0 + 1) ∨ (z = -1 ∧ M1 86 0 = M 86 0)) ∧ True → Q z M1) : wC_Pieces_add a0 a1 M Q := by
  unfold wC_Pieces_add
  have hF0 : ∀ j9 : Nat, ¬ (86 ≤ j9 ∧ j9 ≤ 95) → M j9 = M j9 := fun j9 _ => rfl
  have q1 : 0 ≤ (M 86 0) ∧ (M 86 0) ≤ 5 := BN.at hB (rfl : zcd wC 86 = 38) rfl
  have s2 : sI (M 86 0) = (M 86 0) := sIo (by omega) (by omega)
  refine ⟨fun c3 => ?_, fun c3 => ?_⟩
  · skip
    refine wL1_of (fun x4 M5 => BN wC M5 ∧ (∀ j9 : Nat, ¬ (86 ≤ j9 ∧ j9 ≤ 95) → M5 j9 = M j9) ∧ (0 ≤ x4 ∧ x4 ≤ 1000000) ∧ (M5 86 0 = M 86 0) ∧ (x4 ≤ 8) ∧ True) (fun x4 M5 => (1000000 - x4).toNat) ⟨hB, hF0, (by omega), (by omega), (by omega), trivial⟩ (fun K x4 M5 h11 k12 => ?_)
    obtain ⟨hB6, hF7, i8, i9, i10, -⟩ := h11
    have s13 : sI x4 = x4 := sIo (by omega) (by omega)
    have s14 : sI a1 = a1 := sIo (by omega) (by omega)
    refine ⟨fun c15 => ?_, fun c15 => ?_⟩
    · skip
      have q16 : 0 ≤ (M5 86 0) ∧ (M5 86 0) ≤ 5 := BN.at hB6 (rfl : zcd wC 86 = 38) rfl
      have s17 : sI (M5 86 0) = (M5 86 0) := sIo (by omega) (by omega)
      have o18 : 0 ≤ (sI (M5 86 0)) ∧ (sI (M5 86 0)) < 5 := by omega
      refine ⟨o18, ?_⟩
      intro M19 e20
      have hB21 : BN wC M19 := by rw [e20]; exact BN.up hB6 (rfl : zcd wC 94 = 42) rfl (by omega) (by omega)
      have hF22 : ∀ j9 : Nat, ¬ (86 ≤ j9 ∧ j9 ≤ 95) → M19 j9 = M j9 := fun j9 h9 => by rw [e20]; exact (zup_row _ _ (by omega)).trans (hF7 j9 h9)
      have r23 : M19 86 0 = M5 86 0 := by rw [e20]; exact zup_n _ _ (by omega)
      have q24 : 0 ≤ (M19 86 0) ∧ (M19 86 0) ≤ 5 := BN.at hB21 (rfl : zcd wC 86 = 38) rfl
      intro M25 e26
      have hB27 : BN wC M25 := by rw [e26]; exact BN.up hB21 (rfl : zcd wC 86 = 38) rfl (by omega) (by omega)
      have hF28 : ∀ j9 : Nat, ¬ (86 ≤ j9 ∧ j9 ≤ 95) → M25 j9 = M j9 := fun j9 h9 => by rw [e26]; exact (zup_row _ _ (by omega)).trans (hF22 j9 h9)
      have r29 : M25 86 0 = ((M19 86 0) + 1) := by rw [e26]; exact zup_s _ _ _ _
      have q30 : 0 ≤ (M25 86 0) ∧ (M25 86 0) ≤ 5 := BN.at hB27 (rfl : zcd wC 86 = 38) rfl
      have s31 : sI ((M25 86 0) - 1) = ((M25 86 0) - 1) := sIo (by omega) (by omega)
      exact hQ _ _ ⟨hB27, hF28, (by omega), (by omega), trivial⟩
    · skip
      refine sC_Pieces_digit hB6 (by omega) (by omega) (fun z32  h33 => ?_)
      obtain ⟨p34, -⟩ := h33
      refine ⟨fun c35 => ?_, fun c35 => ?_⟩
      · skip
        have q36 : 0 ≤ (M5 86 0) ∧ (M5 86 0) ≤ 5 := BN.at hB6 (rfl : zcd wC 86 = 38) rfl
        have s37 : sI (M5 86 0) = (M5 86 0) := sIo (by omega) (by omega)
        have o38 : 0 ≤ (sI (M5 86 0)) ∧ (sI (M5 86 0)) < 5 := by omega
        refine ⟨o38, ?_⟩
        obtain ⟨lt39, cd40⟩ : (89 + 1 * (sI (M5 86 0)).toNat) < nC ∧ zcd wC (89 + 1 * (sI (M5 86 0)).toNat) = 41 := (by decide : ∀ k : Nat, k < 5 → (89 + 1 * k) < nC ∧ zcd wC (89 + 1 * k) = 41) (sI (M5 86 0)).toNat (by omega)
        have o41 : 0 ≤ (sI x4) ∧ (sI x4) < 8 := by omega
        refine ⟨o41, ?_⟩
        intro M42 e43
        have hB44 : BN wC M42 := by rw [e43]; exact BN.up hB6 cd40 rfl (by omega) (by omega)
        have hF45 : ∀ j9 : Nat, ¬ (86 ≤ j9 ∧ j9 ≤ 95) → M42 j9 = M j9 := fun j9 h9 => by rw [e43]; exact (zup_row _ _ (by omega)).trans (hF7 j9 h9)
        have r46 : M42 86 0 = M5 86 0 := by rw [e43]; exact zup_n _ _ (by omega)
        exact k12 _ _ ⟨hB44, hF45, (by omega), (by omega), (by omega), trivial⟩ (by omega)
      · skip
        exact hQ _ _ ⟨hB6, hF7, (by omega), (by omega), trivial⟩
  · skip
    exact hQ _ _ ⟨hB, hF0, (by omega), (by omega), trivial⟩
set_option maxHeartbeats 4000000 in
set_option maxRecDepth 100000 in
theorem sC_piece {M : zM} {a0 : Int} {a1 : Int} (hB : BN wC M) (v0 : (-2147483648) ≤ a0 ∧ a0 ≤ 2147483647) (v1 : (-2147483648) ≤ a1 ∧ a1 ≤ 2147483647) {Q : Int → zM → Prop} (hQ : ∀ (z : Int) (M1 : zM), BN wC M1 ∧ (∀ j9 : Nat, ¬ (86 ≤ j9 ∧ j9 ≤ 95) → M1 j9 = M j9) ∧ ((-2147483648) ≤ z ∧ z ≤ 2147483647) ∧ ((M 86 0 < 5 ∧ z = M 86 0 ∧ M1 86 0 = M 86 0 + 1) ∨ (z = -1 ∧ M1 86 0 = M 86 0)) ∧ True → Q z M1) : wC_piece a0 a1 M Q := by
  unfold wC_piece
  have hF0 : ∀ j9 : Nat, ¬ (86 ≤ j9 ∧ j9 ≤ 95) → M j9 = M j9 := fun j9 _ => rfl
  refine sC_within hB (by omega) (by omega) (by omega) (fun z1  h2 => ?_)
  obtain ⟨p3, p4, -⟩ := h2
  refine ⟨fun c5 => ?_, fun c5 => ?_⟩
  · skip
    exact hQ _ _ ⟨hB, hF0, (by omega), (by omega), trivial⟩
  · skip
    refine sC_Pieces_add hB (by omega) (by omega) (fun z6 M7 h8 => ?_)
    obtain ⟨hB9, f10, p11, p12, -⟩ := h8
    have hF13 : ∀ j9 : Nat, ¬ (86 ≤ j9 ∧ j9 ≤ 95) → M7 j9 = M j9 := fun j9 h9 => ((f10 j9 (by omega)).trans (hF0 j9 h9))
    exact hQ _ _ ⟨hB9, hF13, (by omega), (by omega), trivial⟩
set_option maxHeartbeats 4000000 in
set_option maxRecDepth 100000 in
theorem sC_burn {M : zM}  (hB : BN wC M)  {Q : Int → zM → Prop} (hQ : ∀ (z : Int) (M1 : zM), BN wC M1 ∧ (∀ j9 : Nat, ¬ (86 ≤ j9 ∧ j9 ≤ 95) → M1 j9 = M j9) ∧ ((-2147483648) ≤ z ∧ z ≤ 2147483647) ∧ (z = M 86 0 ∧ M1 86 0 = 0) ∧ True → Q z M1) : wC_burn  M Q := by
  unfold wC_burn
  have hF0 : ∀ j9 : Nat, ¬ (86 ≤ j9 ∧ j9 ≤ 95) → M j9 = M j9 := fun j9 _ => rfl
  have q1 : 0 ≤ (M 86 0) ∧ (M 86 0) ≤ 5 := BN.at hB (rfl : zcd wC 86 = 38) rfl
  intro M2 e3
  have hB4 : BN wC M2 := by rw [e3]; exact BN.up hB (rfl : zcd wC 86 = 38) rfl (by omega) (by omega)
  have hF5 : ∀ j9 : Nat, ¬ (86 ≤ j9 ∧ j9 ≤ 95) → M2 j9 = M j9 := fun j9 h9 => by rw [e3]; exact (zup_row _ _ (by omega)).trans (hF0 j9 h9)
  have r6 : M2 86 0 = 0 := by rw [e3]; exact zup_s _ _ _ _
  have s7 : sI (M 86 0) = (M 86 0) := sIo (by omega) (by omega)
  exact hQ _ _ ⟨hB4, hF5, (by omega), (by omega), trivial⟩
set_option maxHeartbeats 4000000 in
set_option maxRecDepth 100000 in
theorem sC_Pieces_laidIsLess {M : zM} {a0 : Int} (hB : BN wC M) (v0 : 0 ≤ a0 ∧ a0 ≤ 40) {Q : Int → Prop} (hQ : ∀ (z : Int), (0 ≤ z ∧ z ≤ 1) ∧ True → Q z) : wC_Pieces_laidIsLess a0 M Q := by
  unfold wC_Pieces_laidIsLess
  refine pL1_of (fun x1 => (0 ≤ x1 ∧ x1 ≤ 1000000) ∧ True) (fun x1 => (1000000 - x1).toNat) ⟨(by omega), trivial⟩ (fun K x1 h3 k4 => ?_)
  obtain ⟨i2, -⟩ := h3
  have s5 : sI x1 = x1 := sIo (by omega) (by omega)
  have s6 : sI a0 = a0 := sIo (by omega) (by omega)
  refine ⟨fun c7 => ?_, fun c7 => ?_⟩
  · skip
    exact hQ _ ⟨(by omega), trivial⟩
  · skip
    have o8 : 0 ≤ (sI x1) ∧ (sI x1) < 40 := by omega
    refine ⟨o8, ?_⟩
    have q9 : (-2147483648) ≤ (M 95 (sI x1).toNat) ∧ (M 95 (sI x1).toNat) ≤ 2147483647 := BN.at hB (rfl : zcd wC 95 = 43) rfl
    have o10 : 0 ≤ (sI x1) ∧ (sI x1) < 40 := by omega
    refine ⟨o10, ?_⟩
    have q11 : (-2147483648) ≤ (M 87 (sI x1).toNat) ∧ (M 87 (sI x1).toNat) ≤ 2147483647 := BN.at hB (rfl : zcd wC 87 = 39) rfl
    have s12 : sI (M 95 (sI x1).toNat) = (M 95 (sI x1).toNat) := sIo (by omega) (by omega)
    have s13 : sI (M 87 (sI x1).toNat) = (M 87 (sI x1).toNat) := sIo (by omega) (by omega)
    refine ⟨fun c14 => ?_, fun c14 => ?_⟩
    · skip
      exact k4 _ ⟨(by omega), trivial⟩ (by omega)
    · skip
      have o15 : 0 ≤ (sI x1) ∧ (sI x1) < 40 := by omega
      refine ⟨o15, ?_⟩
      have o17 : 0 ≤ (sI x1) ∧ (sI x1) < 40 := by omega
      refine ⟨o17, ?_⟩
      refine ⟨fun c19 => ?_, fun c19 => ?_⟩
      · skip
        exact hQ _ ⟨(by omega), trivial⟩
      · skip
        exact hQ _ ⟨(by omega), trivial⟩
set_option maxHeartbeats 4000000 in
set_option maxRecDepth 100000 in
theorem sC_Pieces_keepBetter {M : zM} {a0 : Int} (hB : BN wC M) (v0 : 0 ≤ a0 ∧ a0 ≤ 40) {Q : zM → Prop} (hQ : ∀ (M1 : zM), BN wC M1 ∧ (∀ j9 : Nat, ¬ (j9 = 86 ∨ j9 = 87 ∨ j9 = 95) → M1 j9 = M j9) ∧ (M1 86 0 = M 86 0) ∧ True → Q M1) : wC_Pieces_keepBetter a0 M Q := by
  unfold wC_Pieces_keepBetter
  have hF0 : ∀ j9 : Nat, ¬ (j9 = 86 ∨ j9 = 87 ∨ j9 = 95) → M j9 = M j9 := fun j9 _ => rfl
  have q1 : 0 ≤ (M 86 2) ∧ (M 86 2) ≤ 41 := BN.at hB (rfl : zcd wC 86 = 38) rfl
  have s2 : sI a0 = a0 := sIo (by omega) (by omega)
  have s3 : sI (M 86 2) = (M 86 2) := sIo (by omega) (by omega)
  refine pJ0_dup ?_
  refine ⟨fun c4 => ?_, fun c4 => ?_⟩
  · skip
    intro M5 e6
    have hB7 : BN wC M5 := by rw [e6]; exact BN.up hB (rfl : zcd wC 86 = 38) rfl (by omega) (by omega)
    have hF8 : ∀ j9 : Nat, ¬ (j9 = 86 ∨ j9 = 87 ∨ j9 = 95) → M5 j9 = M j9 := fun j9 h9 => by rw [e6]; exact (zup_row _ _ (by omega)).trans (hF0 j9 h9)
    have r9 : M5 86 0 = M 86 0 := by rw [e6]; exact zup_n _ _ (by omega)
    have o10 : 0 ≤ (sI a0) := by omega
    refine ⟨o10, ?_⟩
    have o11 : 0 + (sI a0) ≤ 40 := by omega
    refine ⟨o11, ?_⟩
    have o12 : 0 + (sI a0) ≤ 40 := by omega
    refine ⟨o12, ?_⟩
    intro M13 e14
    have hB15 : BN wC M13 := by rw [e14]; exact BN.cp hB7 (rfl : zcd wC 87 = 39) (fun _ => rfl) (fun k => BN.r32 hB7 _ k)
    have hF16 : ∀ j9 : Nat, ¬ (j9 = 86 ∨ j9 = 87 ∨ j9 = 95) → M13 j9 = M j9 := fun j9 h9 => by rw [e14]; exact (zcp_row (by omega)).trans (hF8 j9 h9)
    have r17 : M13 86 0 = M5 86 0 := by rw [e14, zcp_row (by omega)]
    exact hQ _ ⟨hB15, hF16, (by omega), trivial⟩
  · skip
    refine ⟨fun c19 => ?_, fun c19 => ?_⟩
    · skip
      exact hQ _ ⟨hB, hF0, (by omega), trivial⟩
    · skip
      refine sC_Pieces_laidIsLess hB (by omega) (fun z20  h21 => ?_)
      obtain ⟨p22, -⟩ := h21
      refine ⟨fun c23 => ?_, fun c23 => ?_⟩
      · skip
        exact hQ _ ⟨hB, hF0, (by omega), trivial⟩
      · skip
        intro M24 e25
        have hB26 : BN wC M24 := by rw [e25]; exact BN.up hB (rfl : zcd wC 86 = 38) rfl (by omega) (by omega)
        have hF27 : ∀ j9 : Nat, ¬ (j9 = 86 ∨ j9 = 87 ∨ j9 = 95) → M24 j9 = M j9 := fun j9 h9 => by rw [e25]; exact (zup_row _ _ (by omega)).trans (hF0 j9 h9)
        have r28 : M24 86 0 = M 86 0 := by rw [e25]; exact zup_n _ _ (by omega)
        have o29 : 0 ≤ (sI a0) := by omega
        refine ⟨o29, ?_⟩
        have o30 : 0 + (sI a0) ≤ 40 := by omega
        refine ⟨o30, ?_⟩
        have o31 : 0 + (sI a0) ≤ 40 := by omega
        refine ⟨o31, ?_⟩
        intro M32 e33
        have hB34 : BN wC M32 := by rw [e33]; exact BN.cp hB26 (rfl : zcd wC 87 = 39) (fun _ => rfl) (fun k => BN.r32 hB26 _ k)
        have hF35 : ∀ j9 : Nat, ¬ (j9 = 86 ∨ j9 = 87 ∨ j9 = 95) → M32 j9 = M j9 := fun j9 h9 => by rw [e33]; exact (zcp_row (by omega)).trans (hF27 j9 h9)
        have r36 : M32 86 0 = M24 86 0 := by rw [e33, zcp_row (by omega)]
        exact hQ _ ⟨hB34, hF35, (by omega), trivial⟩
set_option maxHeartbeats 4000000 in
set_option maxRecDepth 100000 in
theorem sC_Pieces_sound {M : zM} {a0 : Int} {a1 : Int} {a2 : Int} (hB : BN wC M) (v0 : 0 ≤ a0 ∧ a0 ≤ 4) (v1 : (-2147483648) ≤ a1 ∧ a1 ≤ 2147483647) (v2 : 0 ≤ a2 ∧ a2 ≤ 7) (p0 : a2 < M 94 (sI a0).toNat) {Q : Int → Prop} (hQ : ∀ (z : Int), ((-2147483648) ≤ z ∧ z ≤ 2147483647) ∧ True → Q z) : wC_Pieces_sound a0 a1 a2 M Q := by
  unfold wC_Pieces_sound
  have s1 : sI a0 = a0 := sIo (by omega) (by omega)
  have o2 : 0 ≤ (sI a0) ∧ (sI a0) < 5 := by omega
  refine ⟨o2, ?_⟩
  obtain ⟨lt3, cd4⟩ : (89 + 1 * (sI a0).toNat) < nC ∧ zcd wC (89 + 1 * (sI a0).toNat) = 41 := (by decide : ∀ k : Nat, k < 5 → (89 + 1 * k) < nC ∧ zcd wC (89 + 1 * k) = 41) (sI a0).toNat (by omega)
  have s5 : sI a1 = a1 := sIo (by omega) (by omega)
  refine ⟨fun c6 => ?_, fun c6 => ?_⟩
  · skip
    have s7 : sI a2 = a2 := sIo (by omega) (by omega)
    have o8 : 0 ≤ (sI a2) ∧ (sI a2) < 8 := by omega
    refine ⟨o8, ?_⟩
    have q9 : (-2147483648) ≤ (M (89 + 1 * (sI a0).toNat) (sI a2).toNat) ∧ (M (89 + 1 * (sI a0).toNat) (sI a2).toNat) ≤ 2147483647 := BN.at hB cd4 rfl
    have s10 : sI (M (89 + 1 * (sI a0).toNat) (sI a2).toNat) = (M (89 + 1 * (sI a0).toNat) (sI a2).toNat) := sIo (by omega) (by omega)
    exact hQ _ ⟨(by omega), trivial⟩
  · skip
    have o11 : 0 ≤ (sI a0) ∧ (sI a0) < 5 := by omega
    refine ⟨o11, ?_⟩
    have q12 : 0 ≤ (M 94 (sI a0).toNat) ∧ (M 94 (sI a0).toNat) ≤ 8 := BN.at hB (rfl : zcd wC 94 = 42) rfl
    have s13 : sI (((M 94 (sI a0).toNat) - 1) - a2) = (((M 94 (sI a0).toNat) - 1) - a2) := sIo (by omega) (by omega)
    have o14 : 0 ≤ (sI (((M 94 (sI a0).toNat) - 1) - a2)) ∧ (sI (((M 94 (sI a0).toNat) - 1) - a2)) < 8 := by omega
    refine ⟨o14, ?_⟩
    have q15 : (-2147483648) ≤ (M (89 + 1 * (sI a0).toNat) (sI (((M 94 (sI a0).toNat) - 1) - a2)).toNat) ∧ (M (89 + 1 * (sI a0).toNat) (sI (((M 94 (sI a0).toNat) - 1) - a2)).toNat) ≤ 2147483647 := BN.at hB cd4 rfl
    have s16 : sI (M (89 + 1 * (sI a0).toNat) (sI (((M 94 (sI a0).toNat) - 1) - a2)).toNat) = (M (89 + 1 * (sI a0).toNat) (sI (((M 94 (sI a0).toNat) - 1) - a2)).toNat) := sIo (by omega) (by omega)
    exact hQ _ ⟨(by omega), trivial⟩
set_option maxHeartbeats 4000000 in
set_option maxRecDepth 100000 in
theorem sC_Pieces_alike {M : zM} {a0 : Int} {a1 : Int} {a2 : Int} {a3 : Int} (hB : BN wC M) (v0 : 0 ≤ a0 ∧ a0 ≤ 4) (v1 : (-2147483648) ≤ a1 ∧ a1 ≤ 2147483647) (v2 : 0 ≤ a2 ∧ a2 ≤ 40) (v3 : 0 ≤ a3 ∧ a3 ≤ 8) (p0 : a3 ≤ a2) (p1 : a3 ≤ M 94 (sI a0).toNat) {Q : Int → Prop} (hQ : ∀ (z : Int), (0 ≤ z ∧ z ≤ 1) ∧ True → Q z) : wC_Pieces_alike a0 a1 a2 a3 M Q := by
  unfold wC_Pieces_alike
  refine pL1_of (fun x1 => (0 ≤ x1 ∧ x1 ≤ 1000000) ∧ True) (fun x1 => (1000000 - x1).toNat) ⟨(by omega), trivial⟩ (fun K x1 h3 k4 => ?_)
  obtain ⟨i2, -⟩ := h3
  have s5 : sI x1 = x1 := sIo (by omega) (by omega)
  have s6 : sI a3 = a3 := sIo (by omega) (by omega)
  refine ⟨fun c7 => ?_, fun c7 => ?_⟩
  · skip
    exact hQ _ ⟨(by omega), trivial⟩
  · skip
    have s8 : sI ((a2 - a3) + x1) = ((a2 - a3) + x1) := sIo (by omega) (by omega)
    have o9 : 0 ≤ (sI ((a2 - a3) + x1)) ∧ (sI ((a2 - a3) + x1)) < 40 := by omega
    refine ⟨o9, ?_⟩
    have q10 : (-2147483648) ≤ (M 95 (sI ((a2 - a3) + x1)).toNat) ∧ (M 95 (sI ((a2 - a3) + x1)).toNat) ≤ 2147483647 := BN.at hB (rfl : zcd wC 95 = 43) rfl
    refine sC_Pieces_sound hB (by omega) (by omega) (by omega) (by omega) (fun z11  h12 => ?_)
    obtain ⟨p13, -⟩ := h12
    have s14 : sI (M 95 (sI ((a2 - a3) + x1)).toNat) = (M 95 (sI ((a2 - a3) + x1)).toNat) := sIo (by omega) (by omega)
    refine ⟨fun c15 => ?_, fun c15 => ?_⟩
    · skip
      exact k4 _ ⟨(by omega), trivial⟩ (by omega)
    · skip
      exact hQ _ ⟨(by omega), trivial⟩
set_option maxHeartbeats 4000000 in
set_option maxRecDepth 100000 in
theorem sC_Pieces_layPiece {M : zM} {a0 : Int} {a1 : Int} {a2 : Int} (hB : BN wC M) (v0 : 0 ≤ a0 ∧ a0 ≤ 4) (v1 : (-2147483648) ≤ a1 ∧ a1 ≤ 2147483647) (v2 : 0 ≤ a2 ∧ a2 ≤ 32) {Q : Int → zM → Prop} (hQ : ∀ (z : Int) (M1 : zM), BN wC M1 ∧ (∀ j9 : Nat, ¬ (j9 = 95) → M1 j9 = M j9) ∧ (0 ≤ z ∧ z ≤ 40) ∧ (z ≤ a2 + 8) ∧ True → Q z M1) : wC_Pieces_layPiece a0 a1 a2 M Q := by
  unfold wC_Pieces_layPiece
  have hF0 : ∀ j9 : Nat, ¬ (j9 = 95) → M j9 = M j9 := fun j9 _ => rfl
  have s1 : sI a0 = a0 := sIo (by omega) (by omega)
  have o2 : 0 ≤ (sI a0) ∧ (sI a0) < 5 := by omega
  refine ⟨o2, ?_⟩
  have q3 : 0 ≤ (M 94 (sI a0).toNat) ∧ (M 94 (sI a0).toNat) ≤ 8 := BN.at hB (rfl : zcd wC 94 = 42) rfl
  have s4 : sI (M 94 (sI a0).toNat) = (M 94 (sI a0).toNat) := sIo (by omega) (by omega)
  have s5 : sI a2 = a2 := sIo (by omega) (by omega)
  refine pL1_of (fun x6 => (0 ≤ x6 ∧ x6 ≤ 8) ∧ (x6 ≤ a2) ∧ (x6 ≤ M 94 (sI a0).toNat) ∧ True) (fun x6 => (x6 + 1).toNat) ⟨(by omega), (by omega), (by omega), trivial⟩ (fun K x6 h10 k11 => ?_)
  obtain ⟨i7, i8, i9, -⟩ := h10
  have s12 : sI x6 = x6 := sIo (by omega) (by omega)
  refine pJ0_dup ?_
  refine ⟨fun c13 => ?_, fun c13 => ?_⟩
  · skip
    refine wL1_of (fun x14 M15 => BN wC M15 ∧ (∀ j9 : Nat, ¬ (j9 = 95) → M15 j9 = M j9) ∧ (0 ≤ x14 ∧ x14 ≤ 1000000) ∧ True) (fun x14 M15 => (1000000 - x14).toNat) ⟨hB, hF0, (by omega), trivial⟩ (fun K x14 M15 h19 k20 => ?_)
    obtain ⟨hB16, hF17, i18, -⟩ := h19
    have s21 : sI a0 = a0 := sIo (by omega) (by omega)
    have o22 : 0 ≤ (sI a0) ∧ (sI a0) < 5 := by omega
    refine ⟨o22, ?_⟩
    have q23 : 0 ≤ (M15 94 (sI a0).toNat) ∧ (M15 94 (sI a0).toNat) ≤ 8 := BN.at hB16 (rfl : zcd wC 94 = 42) rfl
    have s24 : sI x14 = x14 := sIo (by omega) (by omega)
    have s25 : sI (M15 94 (sI a0).toNat) = (M15 94 (sI a0).toNat) := sIo (by omega) (by omega)
    refine ⟨fun c26 => ?_, fun c26 => ?_⟩
    · skip
      have o27 : 0 ≤ (sI a0) ∧ (sI a0) < 5 := by omega
      refine ⟨o27, ?_⟩
      have s29 : sI ((a2 - x6) + (M15 94 (sI a0).toNat)) = ((a2 - x6) + (M15 94 (sI a0).toNat)) := sIo (by omega) (by omega)
      exact hQ _ _ ⟨hB16, hF17, (by omega), (by omega), trivial⟩
    · skip
      refine sC_Pieces_sound hB16 (by omega) (by omega) (by omega) (by omega) (fun z30  h31 => ?_)
      obtain ⟨p32, -⟩ := h31
      have s33 : sI ((a2 - x6) + x14) = ((a2 - x6) + x14) := sIo (by omega) (by omega)
      have o34 : 0 ≤ (sI ((a2 - x6) + x14)) ∧ (sI ((a2 - x6) + x14)) < 40 := by omega
      refine ⟨o34, ?_⟩
      intro M35 e36
      have hB37 : BN wC M35 := by rw [e36]; exact BN.up hB16 (rfl : zcd wC 95 = 43) rfl (by omega) (by omega)
      have hF38 : ∀ j9 : Nat, ¬ (j9 = 95) → M35 j9 = M j9 := fun j9 h9 => by rw [e36]; exact (zup_row _ _ (by omega)).trans (hF17 j9 h9)
      exact k20 _ _ ⟨hB37, hF38, (by omega), trivial⟩ (by omega)
  · skip
    refine sC_Pieces_alike hB (by omega) (by omega) (by omega) (by omega) (by omega) (by omega) (fun z39  h40 => ?_)
    obtain ⟨p41, -⟩ := h40
    refine ⟨fun c42 => ?_, fun c42 => ?_⟩
    · skip
      refine wL1_of (fun x43 M44 => BN wC M44 ∧ (∀ j9 : Nat, ¬ (j9 = 95) → M44 j9 = M j9) ∧ (0 ≤ x43 ∧ x43 ≤ 1000000) ∧ True) (fun x43 M44 => (1000000 - x43).toNat) ⟨hB, hF0, (by omega), trivial⟩ (fun K x43 M44 h48 k49 => ?_)
      obtain ⟨hB45, hF46, i47, -⟩ := h48
      have s50 : sI a0 = a0 := sIo (by omega) (by omega)
      have o51 : 0 ≤ (sI a0) ∧ (sI a0) < 5 := by omega
      refine ⟨o51, ?_⟩
      have q52 : 0 ≤ (M44 94 (sI a0).toNat) ∧ (M44 94 (sI a0).toNat) ≤ 8 := BN.at hB45 (rfl : zcd wC 94 = 42) rfl
      have s53 : sI x43 = x43 := sIo (by omega) (by omega)
      have s54 : sI (M44 94 (sI a0).toNat) = (M44 94 (sI a0).toNat) := sIo (by omega) (by omega)
      refine ⟨fun c55 => ?_, fun c55 => ?_⟩
      · skip
        have o56 : 0 ≤ (sI a0) ∧ (sI a0) < 5 := by omega
        refine ⟨o56, ?_⟩
        have s58 : sI ((a2 - x6) + (M44 94 (sI a0).toNat)) = ((a2 - x6) + (M44 94 (sI a0).toNat)) := sIo (by omega) (by omega)
        exact hQ _ _ ⟨hB45, hF46, (by omega), (by omega), trivial⟩
      · skip
        refine sC_Pieces_sound hB45 (by omega) (by omega) (by omega) (by omega) (fun z59  h60 => ?_)
        obtain ⟨p61, -⟩ := h60
        have s62 : sI ((a2 - x6) + x43) = ((a2 - x6) + x43) := sIo (by omega) (by omega)
        have o63 : 0 ≤ (sI ((a2 - x6) + x43)) ∧ (sI ((a2 - x6) + x43)) < 40 := by omega
        refine ⟨o63, ?_⟩
        intro M64 e65
        have hB66 : BN wC M64 := by rw [e65]; exact BN.up hB45 (rfl : zcd wC 95 = 43) rfl (by omega) (by omega)
        have hF67 : ∀ j9 : Nat, ¬ (j9 = 95) → M64 j9 = M j9 := fun j9 h9 => by rw [e65]; exact (zup_row _ _ (by omega)).trans (hF46 j9 h9)
        exact k49 _ _ ⟨hB66, hF67, (by omega), trivial⟩ (by omega)
    · skip
      exact k11 _ ⟨(by omega), (by omega), (by omega), trivial⟩ (by omega)
theorem sC_Pieces_layRest : ∀ (n : Nat) {M : zM} {a1 a2 a3 : Int} (hB : BN wC M) (v1 : 0 ≤ a1 ∧ a1 ≤ 5) (v2 : -2147483648 ≤ a2 ∧ a2 ≤ 2147483647) (v3 : 0 ≤ a3 ∧ a3 ≤ 40) (p0 : a3 ≤ 8 * a1) (p1 : 6 ≤ (n : Int) + a1) {Q : zM → Prop} (hQ : ∀ M1, (BN wC M1 ∧ (∀ j9 : Nat, ¬ (j9 = 86 ∨ j9 = 87 ∨ j9 = 95) → M1 j9 = M j9) ∧ (M1 86 0 = M 86 0) ∧ True) → Q M1), wC_Pieces_layRest n a1 a2 a3 M Q := by
  intro n
  induction n with
  | zero => intro M a1 a2 a3 hB v1 v2 v3 p0 p1; omega
  | succ n ih =>
    intro M a1 a2 a3 hB v1 v2 v3 p0 p1 Q hQ
    show wC_Pieces_layRest_F (wC_Pieces_layRest n) a1 a2 a3 M Q
    unfold wC_Pieces_layRest_F
    have b1 : 0 ≤ M 86 0 ∧ M 86 0 ≤ 5 := BN.at hB (rfl : zcd wC 86 = 38) rfl
    have s1 : sI a1 = a1 := sIo (by omega) (by omega)
    have s3 : sI a3 = a3 := sIo (by omega) (by omega)
    have kb : wC_Pieces_keepBetter a3 M (fun M3 => Q M3) := sC_Pieces_keepBetter hB (by omega) (fun M1 hp => hQ _ ⟨hp.1, hp.2.1, hp.2.2.1, trivial⟩)
    refine ⟨fun c => ⟨fun c2 => kb, fun c2 => ⟨fun c3 => ?_, fun c3 => kb⟩⟩, fun c => hQ _ ⟨hB, fun _ _ => rfl, rfl, trivial⟩⟩
    refine wL1_of (fun x M4 => BN wC M4 ∧ (∀ j9 : Nat, ¬ (j9 = 86 ∨ j9 = 87 ∨ j9 = 95) → M4 j9 = M j9) ∧ (0 ≤ x ∧ x ≤ 1000000) ∧ (M4 86 0 = M 86 0) ∧ True) (fun x _ => (1000000 - x).toNat) ⟨hB, fun _ _ => rfl, by omega, rfl, trivial⟩ (fun K x M4 hI hK => ?_)
    obtain ⟨hB4, hF4, i1, e4, -⟩ := hI
    have s4 : sI x = x := sIo (by omega) (by omega)
    have b4 : 0 ≤ M4 86 0 ∧ M4 86 0 ≤ 5 := BN.at hB4 (rfl : zcd wC 86 = 38) rfl
    have s5 : sI (M4 86 0) = M4 86 0 := sIo (by omega) (by omega)
    have ro := orI_R a2 (shlI 1 x)
    refine ⟨fun c4 => hQ _ ⟨hB4, hF4, e4, trivial⟩, fun c4 => ⟨fun c5 => hK _ _ ⟨hB4, hF4, by omega, e4, trivial⟩ (by omega), fun c5 => ?_⟩⟩
    refine sC_Pieces_layPiece hB4 (by omega) (by omega) (by omega) (fun z M5 hp => ?_)
    obtain ⟨hB5, hF5, q1, q2, -⟩ := hp
    refine ih hB5 (by omega) ro (by omega) (by omega) (by omega) (fun M6 hp => ?_)
    obtain ⟨hB6, hF6, e6, -⟩ := hp
    refine sC_Pieces_layPiece hB6 (by omega) (by omega) (by omega) (fun z2 M7 hp => ?_)
    obtain ⟨hB7, hF7, q3, q4, -⟩ := hp
    refine ih hB7 (by omega) ro (by omega) (by omega) (by omega) (fun M8 hp => ?_)
    obtain ⟨hB8, hF8, e8, -⟩ := hp
    have e5 := congrFun (hF5 86 (by omega)) 0
    have e7 := congrFun (hF7 86 (by omega)) 0
    exact hK _ _ ⟨hB8, fun j9 h9 => (hF8 j9 h9).trans ((hF7 j9 (by omega)).trans ((hF6 j9 h9).trans ((hF5 j9 (by omega)).trans (hF4 j9 h9)))), by omega, by omega, trivial⟩ (by omega)
set_option maxHeartbeats 4000000 in
set_option maxRecDepth 100000 in
theorem sC_Pieces_joinAll {M : zM}  (hB : BN wC M)  {Q : Int → zM → Prop} (hQ : ∀ (z : Int) (M1 : zM), BN wC M1 ∧ (∀ j9 : Nat, ¬ (j9 = 86 ∨ j9 = 87 ∨ j9 = 95) → M1 j9 = M j9) ∧ (0 ≤ z ∧ z ≤ 41) ∧ (M1 86 0 = M 86 0) ∧ True → Q z M1) : wC_Pieces_joinAll  M Q := by
  unfold wC_Pieces_joinAll
  have hF0 : ∀ j9 : Nat, ¬ (j9 = 86 ∨ j9 = 87 ∨ j9 = 95) → M j9 = M j9 := fun j9 _ => rfl
  intro M1 e2
  have hB3 : BN wC M1 := by rw [e2]; exact BN.up hB (rfl : zcd wC 86 = 38) rfl (by omega) (by omega)
  have hF4 : ∀ j9 : Nat, ¬ (j9 = 86 ∨ j9 = 87 ∨ j9 = 95) → M1 j9 = M j9 := fun j9 h9 => by rw [e2]; exact (zup_row _ _ (by omega)).trans (hF0 j9 h9)
  have r5 : M1 86 0 = M 86 0 := by rw [e2]; exact zup_n _ _ (by omega)
  refine sC_Pieces_layRest 6 hB3 (by omega) (by omega) (by omega) (by omega) (by omega) (fun  M6 h7 => ?_)
  obtain ⟨hB8, f9, p10, -⟩ := h7
  have hF11 : ∀ j9 : Nat, ¬ (j9 = 86 ∨ j9 = 87 ∨ j9 = 95) → M6 j9 = M j9 := fun j9 h9 => ((f9 j9 (by omega)).trans (hF4 j9 h9))
  have q12 : 0 ≤ (M6 86 2) ∧ (M6 86 2) ≤ 41 := BN.at hB8 (rfl : zcd wC 86 = 38) rfl
  have s13 : sI (M6 86 2) = (M6 86 2) := sIo (by omega) (by omega)
  exact hQ _ _ ⟨hB8, hF11, (by omega), (by omega), trivial⟩
set_option maxHeartbeats 4000000 in
set_option maxRecDepth 100000 in
theorem sC_join {M : zM}  (hB : BN wC M)  {Q : Int → zM → Prop} (hQ : ∀ (z : Int) (M1 : zM), BN wC M1 ∧ (∀ j9 : Nat, ¬ (j9 = 86 ∨ j9 = 87 ∨ j9 = 95 ∨ j9 = 0 ∨ j9 = 133) → M1 j9 = M j9) ∧ ((-2147483648) ≤ z ∧ z ≤ 2147483647) ∧ (M1 86 0 = M 86 0) ∧ True → Q z M1) : wC_join  M Q := by
  unfold wC_join
  have hF0 : ∀ j9 : Nat, ¬ (j9 = 86 ∨ j9 = 87 ∨ j9 = 95 ∨ j9 = 0 ∨ j9 = 133) → M j9 = M j9 := fun j9 _ => rfl
  refine sC_Pieces_joinAll hB  (fun z1 M2 h3 => ?_)
  obtain ⟨hB4, f5, p6, p7, -⟩ := h3
  have hF8 : ∀ j9 : Nat, ¬ (j9 = 86 ∨ j9 = 87 ∨ j9 = 95 ∨ j9 = 0 ∨ j9 = 133) → M2 j9 = M j9 := fun j9 h9 => ((f5 j9 (by omega)).trans (hF0 j9 h9))
  refine sC_tell hB4 (by decide) (rfl : zcd wC 87 = 39) (by omega) (by decide) (fun  M9 h10 => ?_)
  obtain ⟨hB11, f12, -⟩ := h10
  have hF13 : ∀ j9 : Nat, ¬ (j9 = 86 ∨ j9 = 87 ∨ j9 = 95 ∨ j9 = 0 ∨ j9 = 133) → M9 j9 = M j9 := fun j9 h9 => ((f12 j9 (by omega)).trans (hF8 j9 h9))
  have r14 : M9 86 0 = M2 86 0 := congrFun (f12 86 (by omega)) 0
  exact hQ _ _ ⟨hB11, hF13, (by omega), (by omega), trivial⟩
set_option maxHeartbeats 4000000 in
set_option maxRecDepth 100000 in
theorem sC_Versions_latest {M : zM} {a0 : Int} {a1 : Int} (hB : BN wC M) (v0 : (-2147483648) ≤ a0 ∧ a0 ≤ 2147483647) (v1 : (-2147483648) ≤ a1 ∧ a1 ≤ 2147483647) {Q : Int → Prop} (hQ : ∀ (z : Int), ((-2147483648) ≤ z ∧ z ≤ 2147483647) ∧ True → Q z) : wC_Versions_latest a0 a1 M Q := by
  unfold wC_Versions_latest
  have q1 : 0 ≤ (M 96 0) ∧ (M 96 0) ≤ 16 := BN.at hB (rfl : zcd wC 96 = 44) rfl
  refine pL1_of (fun x2 => ((-1) ≤ x2 ∧ x2 ≤ 15) ∧ True) (fun x2 => (x2 + 1).toNat) ⟨(by omega), trivial⟩ (fun K x2 h4 k5 => ?_)
  obtain ⟨i3, -⟩ := h4
  have s6 : sI x2 = x2 := sIo (by omega) (by omega)
  refine ⟨fun c7 => ?_, fun c7 => ?_⟩
  · skip
    exact hQ _ ⟨(by omega), trivial⟩
  · skip
    have o8 : 0 ≤ (sI x2) ∧ (sI x2) < 16 := by omega
    refine ⟨o8, ?_⟩
    have q9 : (-2147483648) ≤ (M 98 (sI x2).toNat) ∧ (M 98 (sI x2).toNat) ≤ 2147483647 := BN.at hB (rfl : zcd wC 98 = 46) rfl
    have s10 : sI (M 98 (sI x2).toNat) = (M 98 (sI x2).toNat) := sIo (by omega) (by omega)
    have s11 : sI a0 = a0 := sIo (by omega) (by omega)
    refine ⟨fun c12 => ?_, fun c12 => ?_⟩
    · skip
      exact k5 _ ⟨(by omega), trivial⟩ (by omega)
    · skip
      have o13 : 0 ≤ (sI x2) ∧ (sI x2) < 16 := by omega
      refine ⟨o13, ?_⟩
      have q14 : (-2147483648) ≤ (M 99 (sI x2).toNat) ∧ (M 99 (sI x2).toNat) ≤ 2147483647 := BN.at hB (rfl : zcd wC 99 = 47) rfl
      have s15 : sI (M 99 (sI x2).toNat) = (M 99 (sI x2).toNat) := sIo (by omega) (by omega)
      have s16 : sI a1 = a1 := sIo (by omega) (by omega)
      refine ⟨fun c17 => ?_, fun c17 => ?_⟩
      · skip
        exact k5 _ ⟨(by omega), trivial⟩ (by omega)
      · skip
        exact hQ _ ⟨(by omega), trivial⟩
set_option maxHeartbeats 4000000 in
set_option maxRecDepth 100000 in
theorem sC_known {M : zM} {a0 : Int} {a1 : Int} (hB : BN wC M) (v0 : (-2147483648) ≤ a0 ∧ a0 ≤ 2147483647) (v1 : (-2147483648) ≤ a1 ∧ a1 ≤ 2147483647) {Q : Int → Prop} (hQ : ∀ (z : Int), ((-2147483648) ≤ z ∧ z ≤ 2147483647) ∧ True → Q z) : wC_known a0 a1 M Q := by
  unfold wC_known
  refine sC_Versions_latest hB (by omega) (by omega) (fun z1  h2 => ?_)
  obtain ⟨p3, -⟩ := h2
  exact hQ _ ⟨(by omega), trivial⟩
theorem sC_Versions_find {M : zM} {a0 : Int} (hB : BN wC M) (v0 : -2147483648 ≤ a0 ∧ a0 ≤ 2147483647) {Q : Option Nat → Prop} (hn : (a0 < 0 ∨ M 96 0 ≤ a0) → Q none) (hs : ∀ q, ((q < nC ∧ zcd wC q = 6) ∧ (q = 101 + 2 * a0.toNat ∧ 0 ≤ a0 ∧ a0 < M 96 0 ∧ a0 < 16)) → Q (some q)) : wC_Versions_find a0 M Q := by
  unfold wC_Versions_find
  have b : 0 ≤ M 96 0 ∧ M 96 0 ≤ 16 := BN.at hB (rfl : zcd wC 96 = 44) rfl
  have s1 : sI a0 = a0 := sIo (by omega) (by omega)
  have s2 : sI (M 96 0) = M 96 0 := sIo (by omega) (by omega)
  rw [s1, s2]
  refine ⟨fun c => hn (by omega), fun c => ⟨fun c2 => hn (by omega), fun c2 => ⟨fun c3 => absurd c3 (by omega), fun c3 => ⟨by omega, ?_⟩⟩⟩⟩
  exact hs _ ⟨(by decide : ∀ k : Nat, k < 16 → 101 + 2 * k < nC ∧ zcd wC (101 + 2 * k) = 6) _ (by omega), rfl, c, c2, c3⟩
end zz30_C04
section zz30_C05
set_option maxHeartbeats 4000000 in
set_option maxRecDepth 100000 in
theorem sC_row {M : zM} {a0 : Int} (hB : BN wC M) (v0 : (-2147483648) ≤ a0 ∧ a0 ≤ 2147483647) {Q : Int → Prop} {X : Prop} (hX : X) (hQ : ∀ (z : Int), ((-2147483648) ≤ z ∧ z ≤ 2147483647) ∧ True → Q z) : wC_row a0 M Q X := by
  unfold wC_row
  have s1 : sI a0 = a0 := sIo (by omega) (by omega)
  refine ⟨fun c2 => ?_, fun c2 => ?_⟩
  · skip
    exact hX
  · skip
    have q3 : 0 ≤ (M 0 10) ∧ (M 0 10) ≤ 40 := BN.at hB (rfl : zcd wC 0 = 0) rfl
    have s4 : sI (M 0 10) = (M 0 10) := sIo (by omega) (by omega)
    refine ⟨fun c5 => ?_, fun c5 => ?_⟩
    · skip
      exact hX
    · skip
      refine ⟨fun c6 => ?_, fun c6 => ?_⟩
      · skip
        have o7 : 0 ≤ (sI a0) ∧ (sI a0) < 40 := by omega
        refine ⟨o7, ?_⟩
        have q8 : (-2147483648) ≤ (M 133 (sI a0).toNat) ∧ (M 133 (sI a0).toNat) ≤ 2147483647 := BN.at hB (rfl : zcd wC 133 = 49) rfl
        have s9 : sI (M 133 (sI a0).toNat) = (M 133 (sI a0).toNat) := sIo (by omega) (by omega)
        exact hQ _ ⟨(by omega), trivial⟩
      · skip
        exact hX
end zz30_C05
