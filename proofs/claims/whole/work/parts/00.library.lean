/-! names a law of the library's last shelf (used in E1), so that a round is read over the whole library from its first part on -/
theorem lib_all : True := by
  have := @Stand.multianewarray2F
  trivial
