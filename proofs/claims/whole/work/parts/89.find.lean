theorem zfind_no {x : Int} : ∀ (l : List Int) (k : Int), (∀ b ∈ l, b ≠ x) → zfind l x k = -1
  | [], _, _ => rfl
  | b :: l, k, h => by
    unfold zfind
    rw [if_neg (h b List.mem_cons_self)]
    exact zfind_no l (k + 1) (fun b hb => h b (List.mem_cons_of_mem _ hb))
