theorem z1 : True := by
  have h := @Stand.ctorThrow0V
  trivial
theorem z2 : True := by
  have h := @Stand.throwsMessageBareV
  trivial
theorem z3 : True := by
  have h := @Stand.throwsPlainBareV
  trivial
theorem z4 : True := by
  have h := @Stand.throwsColdBareV
  trivial
theorem z5 : True := by
  have h := @Stand.throwNewColdBareV
  trivial
theorem z6 : True := by
  have h := @Stand.throwNewMessageColdBareV
  trivial
theorem z7 : True := by
  have h := @Stand.throwsNewMessageColdBareV
  trivial
theorem z8 : True := by
  have h := @Stand.throwColdBareV
  trivial
theorem z9 : True := by
  have h := @Stand.throwsLiteralColdBareV
  trivial
theorem z10 : True := by
  have h := @Stand.throwNewLiteralColdBareV
  trivial
theorem z11 : True := by
  have h := @Stand.throwsPlainColdBareV
  trivial
theorem z12 : True := by
  have h := @Stand.ctorColdBareV
  trivial
theorem z13 : True := by
  have h := @Stand.throwNewLiteralBareV
  trivial
theorem z14 : True := by
  have h := @Stand.throwNewLiteral_bareV
  trivial
theorem z15 : True := by
  have h := @Stand.throwNewBareV
  trivial
theorem z16 : True := by
  have h := @Stand.throwNewColdV
  trivial
theorem z17 : True := by
  have h := @Stand.throwNewV
  trivial
theorem z18 : True := by
  have h := @Stand.throwsOwnBareV
  trivial
theorem z19 : True := by
  have h := @Stand.ctorThrowColdBareV
  trivial
theorem z20 : True := by
  have h := @Stand.ctorThrowsColdBareV
  trivial
theorem z21 : True := by
  have h := @Steps.throwCtorColdByV
  trivial
theorem z22 : True := by
  have h := @Steps.ctorColdByV
  trivial
theorem z23 : True := by
  have h := @Steps.ctorThrowColdByV
  trivial
theorem z24 : True := by
  have h := @Steps.ctorsColdByV
  trivial
theorem z25 : True := by
  have h := @Steps.initColdByV
  trivial
theorem z26 : True := by
  have h := @Steps.throwsMessageColdByV
  trivial
theorem z27 : True := by
  have h := @Steps.throwMessageColdByV
  trivial
theorem z28 : True := by
  have h := @Steps.throwNewLiteralCold
  trivial
theorem z29 : True := by
  have h := @Steps.throwNewLiteralColdBare
  trivial
